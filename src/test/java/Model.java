import java.util.ArrayList;
import java.util.List;

/**
 * The document once more, in the slowest and plainest form and written apart from the class: every figure is
 * counted anew from lists of what was made, and a state is a copy of everything.
 */
final class Model {
    /** A block: rows, chairs, price. */
    record BlockMade(int rows, int chairs, int price) {
    }

    /** A rectangle of a stage. */
    record Piece(int stage, int block, int row1, int row2, int chair1, int chair2) {
        boolean covers(int block, int row, int chair) {
            return this.block == block && row >= row1 && row <= row2 && chair >= chair1 && chair <= chair2;
        }
    }

    /** A hold: what 0 open, 1 bought, 2 dropped, 3 expired. */
    record HoldMade(int what, int block, int row, int chair, int many, int until, int ticket) {
        HoldMade turned(int to, int ticket) {
            return new HoldMade(to, block, row, chair, many, until, ticket);
        }
    }

    /** A ticket: what 0 valid, 1 returned, 2 in, 3 no-show. */
    record TicketMade(int what, int block, int row, int chair, int many, int paid, int moves, int back) {
        TicketMade turned(int to, int back) {
            return new TicketMade(to, block, row, chair, many, paid, moves, back);
        }
    }

    /** Everything that undo restores. */
    private static final class State {
        int minute = 0;
        boolean closed = false;
        List<BlockMade> blocks = new ArrayList<>();
        List<Boolean> stages = new ArrayList<>();
        List<Piece> pieces = new ArrayList<>();
        List<HoldMade> holds = new ArrayList<>();
        List<TicketMade> tickets = new ArrayList<>();

        State copy() {
            State made = new State();
            made.minute = minute;
            made.closed = closed;
            made.blocks = new ArrayList<>(blocks);
            made.stages = new ArrayList<>(stages);
            made.pieces = new ArrayList<>(pieces);
            made.holds = new ArrayList<>(holds);
            made.tickets = new ArrayList<>(tickets);
            return made;
        }
    }

    private State now = new State();
    private final List<State> history = new ArrayList<>();
    private String text = "";

    // ---- what a chair is

    private static boolean within(int chair, int first, int many) {
        return chair >= first && chair < first + many;
    }

    private int taken(int block, int row, int chair) {
        for (HoldMade h : now.holds) {
            if (h.what == 0 && h.block == block && h.row == row && within(chair, h.chair, h.many)) {
                return 1;
            }
        }
        for (TicketMade t : now.tickets) {
            boolean here = t.block == block && t.row == row && within(chair, t.chair, t.many);
            if (here && t.what == 0) {
                return 2;
            }
            if (here && t.what == 2) {
                return 3;
            }
        }
        return 0;
    }

    private boolean killed(int block, int row, int chair) {
        for (Piece p : now.pieces) {
            if (now.stages.get(p.stage) && p.covers(block, row, chair)) {
                return true;
            }
        }
        return false;
    }

    private boolean exists(int block, int row, int chair) {
        return block >= 0 && block < now.blocks.size() && row >= 0 && row < now.blocks.get(block).rows
            && chair >= 0 && chair < now.blocks.get(block).chairs;
    }

    private boolean open(int block, int row, int chair) {
        return exists(block, row, chair) && taken(block, row, chair) == 0 && !killed(block, row, chair);
    }

    private boolean pieceOf(int stage, int block, int row, int chair) {
        for (Piece p : now.pieces) {
            if (p.stage == stage && p.covers(block, row, chair)) {
                return true;
            }
        }
        return false;
    }

    private int killedInAll() {
        int sum = 0;
        for (int b = 0; b < now.blocks.size(); b++) {
            for (int r = 0; r < 6; r++) {
                for (int c = 0; c < 10; c++) {
                    sum += killed(b, r, c) ? 1 : 0;
                }
            }
        }
        return sum;
    }

    // ---- placing

    private int aloneAfter(int block, int row, int first, int many) {
        int sum = 0;
        for (int c = 0; c < 10; c++) {
            boolean leftBefore = open(block, row, c - 1);
            boolean rightBefore = open(block, row, c + 1);
            boolean here = open(block, row, c) && !within(c, first, many);
            boolean left = leftBefore && !within(c - 1, first, many);
            boolean right = rightBefore && !within(c + 1, first, many);
            if (here && !left && !right && (leftBefore || rightBefore)) {
                sum++;
            }
        }
        return sum;
    }

    /** The place as ten times the row plus the chair, or -9. */
    private int placed(int block, int many) {
        int best = -9;
        int least = 99;
        for (int row = 0; row < 6; row++) {
            for (int first = 0; first < 10; first++) {
                boolean fits = true;
                for (int c = first; c < first + many; c++) {
                    fits = fits && open(block, row, c);
                }
                int alone = fits ? aloneAfter(block, row, first, many) : 99;
                if (alone < least) {
                    least = alone;
                    best = row * 10 + first;
                }
            }
        }
        return best;
    }

    private int rank(int block) {
        int less = 0;
        for (BlockMade b : now.blocks) {
            less += b.price < now.blocks.get(block).price ? 1 : 0;
        }
        return less;
    }

    // ---- actions, without the history

    private int recorded(State before, int answer) {
        if (answer < 0) {
            now = before;
        } else {
            history.add(before);
            if (history.size() > 5) {
                history.remove(0);
            }
        }
        return answer;
    }

    int addBlock(int rows, int chairs, int price) {
        State before = now.copy();
        if (rows < 1 || rows > 6 || chairs < 1 || chairs > 10 || price < 1 || price > 500) {
            return -1;
        }
        if (now.blocks.size() == 6) {
            return -3;
        }
        now.blocks.add(new BlockMade(rows, chairs, price));
        return recorded(before, now.blocks.size() - 1);
    }

    int addStage() {
        State before = now.copy();
        if (now.stages.size() == 4) {
            return -3;
        }
        now.stages.add(false);
        return recorded(before, now.stages.size() - 1);
    }

    int addPiece(int stage, int from, int to) {
        State before = now.copy();
        if (stage < 0 || stage >= now.stages.size() || chair(from) == -1 || chair(to) == -1
            || from / 100 != to / 100 || to / 10 % 10 < from / 10 % 10 || to % 10 < from % 10) {
            return -1;
        }
        if (now.stages.get(stage)) {
            return -2;
        }
        now.pieces.add(new Piece(stage, from / 100, from / 10 % 10, to / 10 % 10, from % 10, to % 10));
        int sum = 0;
        for (int code = 0; code < 600; code++) {
            sum += pieceOf(stage, code / 100, code / 10 % 10, code % 10) ? 1 : 0;
        }
        return recorded(before, sum);
    }

    private int rawPutUp(int stage) {
        if (stage < 0 || stage >= now.stages.size()) {
            return -1;
        }
        if (now.stages.get(stage)) {
            return -2;
        }
        for (int code = 0; code < 600; code++) {
            boolean under = pieceOf(stage, code / 100, code / 10 % 10, code % 10);
            if (under && taken(code / 100, code / 10 % 10, code % 10) != 0) {
                return -2;
            }
        }
        now.stages.set(stage, true);
        return killedInAll();
    }

    int putUp(int stage) {
        State before = now.copy();
        return recorded(before, rawPutUp(stage));
    }

    int takeDown(int stage) {
        State before = now.copy();
        if (stage < 0 || stage >= now.stages.size()) {
            return -1;
        }
        if (!now.stages.get(stage)) {
            return -2;
        }
        now.stages.set(stage, false);
        return recorded(before, killedInAll());
    }

    private int rawHold(int block, int many, int minutes) {
        if (block < 0 || block >= now.blocks.size() || many < 1 || many > 10 || minutes < 1 || minutes > 999) {
            return -1;
        }
        int where = placed(block, many);
        if (where == -9) {
            return -2;
        }
        if (now.holds.size() == 20) {
            return -3;
        }
        now.holds.add(new HoldMade(0, block, where / 10, where % 10, many, now.minute + minutes, -9));
        return now.holds.size() - 1;
    }

    int hold(int block, int many, int minutes) {
        State before = now.copy();
        return recorded(before, rawHold(block, many, minutes));
    }

    private int rawBuy(int hold) {
        if (hold < 0 || hold >= now.holds.size()) {
            return -1;
        }
        HoldMade h = now.holds.get(hold);
        if (h.what != 0) {
            return -2;
        }
        int paid = h.many * now.blocks.get(h.block).price;
        now.holds.set(hold, h.turned(1, now.tickets.size()));
        now.tickets.add(new TicketMade(now.closed ? 2 : 0, h.block, h.row, h.chair, h.many, paid, 0, 0));
        return now.tickets.size() - 1;
    }

    int buy(int hold) {
        State before = now.copy();
        return recorded(before, rawBuy(hold));
    }

    private int rawDrop(int hold) {
        if (hold < 0 || hold >= now.holds.size()) {
            return -1;
        }
        HoldMade h = now.holds.get(hold);
        if (h.what != 0) {
            return -2;
        }
        now.holds.set(hold, h.turned(2, -9));
        return h.many;
    }

    int drop(int hold) {
        State before = now.copy();
        return recorded(before, rawDrop(hold));
    }

    private int rawGiveBack(int ticket) {
        if (ticket < 0 || ticket >= now.tickets.size()) {
            return -1;
        }
        TicketMade t = now.tickets.get(ticket);
        if (t.what != 0) {
            return -2;
        }
        int back = t.paid * 3 / 4;
        now.tickets.set(ticket, t.turned(1, back));
        return back;
    }

    int giveBack(int ticket) {
        State before = now.copy();
        return recorded(before, rawGiveBack(ticket));
    }

    private int rawComeIn(int ticket) {
        if (ticket < 0 || ticket >= now.tickets.size()) {
            return -1;
        }
        TicketMade t = now.tickets.get(ticket);
        if (t.what != 0) {
            return -2;
        }
        now.tickets.set(ticket, t.turned(2, 0));
        int in = 0;
        for (TicketMade one : now.tickets) {
            in += one.what == 2 ? one.many : 0;
        }
        return in;
    }

    int comeIn(int ticket) {
        State before = now.copy();
        return recorded(before, rawComeIn(ticket));
    }

    private void move(int ticket, int to) {
        TicketMade t = now.tickets.get(ticket);
        int where = placed(to, t.many);
        now.tickets.set(ticket,
            new TicketMade(0, to, where / 10, where % 10, t.many, t.paid, t.moves + 1, t.back));
    }

    private int rawChain(int ticket) {
        TicketMade first = now.tickets.get(ticket);
        int to = -1;
        for (int b = 0; b < now.blocks.size(); b++) {
            if (first.what == 0 && rank(b) > rank(first.block) && placed(b, first.many) != -9
                && (to == -1 || rank(b) > rank(to))) {
                to = b;
            }
        }
        List<Integer> movedOnes = new ArrayList<>();
        int next = to == -1 ? -1 : ticket;
        while (next != -1) {
            int left = now.tickets.get(next).block;
            move(next, to);
            movedOnes.add(next);
            to = left;
            next = -1;
            for (int i = now.tickets.size() - 1; i >= 0; i--) {
                TicketMade t = now.tickets.get(i);
                if (t.what == 0 && !movedOnes.contains(i) && rank(t.block) < rank(to)
                    && placed(to, t.many) != -9) {
                    next = i;
                }
            }
        }
        return movedOnes.size();
    }

    int upgrade(int ticket) {
        State before = now.copy();
        if (ticket < 0 || ticket >= now.tickets.size()) {
            return -1;
        }
        int moved = rawChain(ticket);
        return moved == 0 ? -2 : recorded(before, moved);
    }

    private int rawPass(int minutes) {
        if (minutes < 1 || minutes > 999) {
            return -1;
        }
        if (now.minute + minutes > 9999) {
            return -2;
        }
        int expired = 0;
        for (int m = 0; m < minutes; m++) {
            now.minute++;
            for (int i = 0; i < now.holds.size(); i++) {
                if (now.holds.get(i).what == 0 && now.holds.get(i).until == now.minute) {
                    now.holds.set(i, now.holds.get(i).turned(3, -9));
                    expired++;
                }
            }
        }
        return expired;
    }

    int pass(int minutes) {
        State before = now.copy();
        return recorded(before, rawPass(minutes));
    }

    int closeDoors() {
        State before = now.copy();
        if (now.closed) {
            return -2;
        }
        now.closed = true;
        int chairs = 0;
        for (int i = 0; i < now.tickets.size(); i++) {
            TicketMade t = now.tickets.get(i);
            if (t.what == 0) {
                chairs += t.many;
                now.tickets.set(i, t.turned(3, 0));
            }
        }
        return recorded(before, chairs);
    }

    int undo() {
        if (history.isEmpty()) {
            return -2;
        }
        now = history.remove(history.size() - 1);
        return history.size();
    }

    // ---- programs

    int append(int character) {
        if (character < 1 || character > 255) {
            return -1;
        }
        if (text.length() == 120) {
            return -3;
        }
        text += (char) character;
        return text.length();
    }

    int clearText() {
        int before = text.length();
        text = "";
        return before;
    }

    /** The tokens of the text, each with its offset; the end of the text is an empty one. */
    private List<Object[]> tokens() {
        List<Object[]> found = new ArrayList<>();
        java.util.regex.Matcher matcher =
            java.util.regex.Pattern.compile("[a-z]+|[0-9]+|[^ ]", java.util.regex.Pattern.DOTALL).matcher(text);
        while (matcher.find()) {
            found.add(new Object[] {matcher.group(), matcher.start()});
        }
        found.add(new Object[] {"", text.length()});
        return found;
    }

    int run() {
        State before = now.copy();
        List<Object[]> tokens = tokens();
        int at = 0;
        int orders = 0;
        while (!tokens.get(at)[0].equals("")) {
            String word = (String) tokens.get(at)[0];
            int wordPlace = (Integer) tokens.get(at)[1];
            if (!List.of("hold", "buy", "drop", "back", "in", "up", "wait").contains(word)) {
                return recorded(before, -1000 - wordPlace);
            }
            int[] numbers = new int[word.equals("hold") ? 3 : 1];
            for (int i = 0; i < numbers.length; i++) {
                at++;
                String number = (String) tokens.get(at)[0];
                if (!number.matches("0|[1-9][0-9]{0,3}")) {
                    return recorded(before, -1000 - (Integer) tokens.get(at)[1]);
                }
                numbers[i] = Integer.parseInt(number);
            }
            at++;
            if (!tokens.get(at)[0].equals(";")) {
                return recorded(before, -1000 - (Integer) tokens.get(at)[1]);
            }
            if (order(word, numbers) < 0) {
                return recorded(before, -1000 - wordPlace);
            }
            orders++;
            at++;
        }
        text = "";
        return recorded(before, orders);
    }

    private int order(String word, int[] n) {
        return switch (word) {
            case "hold" -> rawHold(n[0], n[1], n[2]);
            case "buy" -> rawBuy(n[0]);
            case "drop" -> rawDrop(n[0]);
            case "back" -> rawGiveBack(n[0]);
            case "in" -> rawComeIn(n[0]);
            case "up" -> rawPutUp(n[0]);
            default -> rawPass(n[0]);
        };
    }

    // ---- looking

    int count(int what) {
        return switch (what) {
            case 0 -> now.minute;
            case 1 -> now.blocks.size();
            case 2 -> now.stages.size();
            case 3 -> (int) now.stages.stream().filter(up -> up).count();
            case 4 -> now.holds.size();
            case 5 -> (int) now.holds.stream().filter(h -> h.what == 0).count();
            case 6 -> now.tickets.size();
            case 7 -> (int) now.tickets.stream().filter(t -> t.what == 0).count();
            case 8 -> now.closed ? 1 : 0;
            case 9 -> now.tickets.stream().mapToInt(TicketMade::paid).sum();
            case 10 -> now.tickets.stream().mapToInt(TicketMade::back).sum();
            case 11 -> (int) now.tickets.stream().filter(t -> t.what == 3).count();
            case 12 -> now.tickets.stream().mapToInt(TicketMade::moves).sum();
            case 13 -> history.size();
            case 14 -> text.length();
            default -> -1;
        };
    }

    int block(int block, int what) {
        if (block < 0 || block >= now.blocks.size() || what < 0 || what > 8) {
            return -1;
        }
        BlockMade b = now.blocks.get(block);
        int[] sums = new int[6];
        for (int row = 0; row < b.rows; row++) {
            for (int c = 0; c < b.chairs; c++) {
                int taken = taken(block, row, c);
                sums[taken != 0 ? taken + 1 : killed(block, row, c) ? 1 : 5]++;
                sums[0]++;
            }
        }
        int greatest = 0;
        for (int many = 1; many <= 10; many++) {
            greatest = placed(block, many) == -9 ? greatest : many;
        }
        return what < 6 ? sums[what] : what == 6 ? rank(block) : what == 7 ? b.price : greatest;
    }

    int chair(int chair) {
        if (chair < 0 || !exists(chair / 100, chair / 10 % 10, chair % 10)) {
            return -1;
        }
        int taken = taken(chair / 100, chair / 10 % 10, chair % 10);
        return killed(chair / 100, chair / 10 % 10, chair % 10) ? taken + 10 : taken;
    }

    int holdOf(int hold, int what) {
        if (hold < 0 || hold >= now.holds.size() || what < 0 || what > 4) {
            return -1;
        }
        HoldMade h = now.holds.get(hold);
        return new int[] {h.what, h.block * 100 + h.row * 10 + h.chair, h.many, h.until, h.ticket}[what];
    }

    int ticket(int ticket, int what) {
        if (ticket < 0 || ticket >= now.tickets.size() || what < 0 || what > 4) {
            return -1;
        }
        TicketMade t = now.tickets.get(ticket);
        return new int[] {t.what, t.block * 100 + t.row * 10 + t.chair, t.many, t.paid, t.moves}[what];
    }

    // ---- what could be

    int place(int block, int many) {
        if (block < 0 || block >= now.blocks.size() || many < 1 || many > 10) {
            return -1;
        }
        int where = placed(block, many);
        return where == -9 ? -9 : block * 100 + where;
    }

    int wouldKill(int stage) {
        if (stage < 0 || stage >= now.stages.size()) {
            return -1;
        }
        int sum = 0;
        for (int code = 0; code < 600; code++) {
            boolean under = pieceOf(stage, code / 100, code / 10 % 10, code % 10);
            sum += under && !killed(code / 100, code / 10 % 10, code % 10) ? 1 : 0;
        }
        return now.stages.get(stage) ? 0 : sum;
    }

    int chain(int ticket) {
        if (ticket < 0 || ticket >= now.tickets.size()) {
            return -1;
        }
        State before = now.copy();
        int moved = rawChain(ticket);
        now = before;
        return moved;
    }

    int cheapest(int many) {
        if (many < 1 || many > 10) {
            return -1;
        }
        int best = -9;
        for (int b = now.blocks.size() - 1; b >= 0; b--) {
            boolean fits = placed(b, many) != -9;
            if (fits && (best == -9 || now.blocks.get(b).price <= now.blocks.get(best).price)) {
                best = b;
            }
        }
        return best;
    }

    int nextExpiry() {
        return now.holds.stream().filter(h -> h.what == 0).mapToInt(h -> h.until - now.minute).min().orElse(-9);
    }
}
