import java.util.Random;

/** Long runs of calls, drawn with fixed seeds, on the class and on the model, which must always agree. */
public final class ModelTest {
    private static final int RUNS = 400;
    private static final int CALLS = 300;
    private static final int SET_UP = 8;
    private static final String[] WORDS = {"hold", "buy", "drop", "back", "in", "up", "wait"};

    private final Random random;
    private final SightBlocks real = new SightBlocks();
    private final Model model = new Model();
    private final String name;
    /** Small, so that blocks often share a price. */
    private final int spread;
    /** Long waits, so that the last minute is reached. */
    private final boolean late;
    /** Small blocks and long holds, so that chains of upgrades are long. */
    private final boolean crowded;

    private ModelTest(int seed) {
        random = new Random(seed);
        name = "seed " + seed + ": ";
        spread = 1 + random.nextInt(4);
        late = seed % 4 == 1;
        crowded = seed % 4 >= 2;
    }

    public static void main(String[] args) {
        for (int seed = 0; seed < RUNS; seed++) {
            ModelTest test = new ModelTest(seed);
            for (int call = 0; call < CALLS; call++) {
                test.step(call);
            }
        }
        Due.end();
    }

    private int below(int bound) {
        return random.nextInt(bound);
    }

    /** A number from 0 to most - 1, and now and then one that is out of every range. */
    private int near(int most) {
        int draw = below(90);
        if (draw == 0) {
            return -1 - below(3);
        }
        if (draw == 1) {
            return new int[] {Integer.MIN_VALUE, Integer.MAX_VALUE, 1000, 600, 10000}[below(5)];
        }
        return draw < 5 ? most + below(2) : below(Math.max(1, most));
    }

    private int someBlock() {
        return near(model.count(1));
    }

    private int someHold() {
        int made = model.count(4);
        return below(2) == 0 && made > 0 ? made - 1 : near(made);
    }

    /** An open hold, or the one that is made next, because orders of a program follow each other. */
    private int likelyHold() {
        int made = model.count(4);
        int hold = below(made + 1);
        for (int i = 0; i < 20 && model.holdOf(hold, 0) > 0; i++) {
            hold = below(made + 1);
        }
        return below(8) == 0 ? someHold() : hold;
    }

    /** A valid ticket, if one is found. */
    private int likelyTicket() {
        int made = model.count(6);
        int ticket = below(made + 1);
        for (int i = 0; i < 20 && model.ticket(ticket, 0) != 0; i++) {
            ticket = below(made + 1);
        }
        return below(8) == 0 ? someTicket() : ticket;
    }

    private int someTicket() {
        return near(model.count(6));
    }

    private int someStage() {
        return near(model.count(2));
    }

    private int someMany() {
        return 1 + near(below(3) == 0 ? 10 : 4);
    }

    private int someMinutes() {
        boolean wide = late ? below(3) != 0 : below(25) == 0;
        return 1 + near(wide ? 999 : crowded ? 90 : 12);
    }

    private int someChair() {
        int block = below(Math.max(1, model.count(1)));
        int chairs = model.block(block, 0);
        int code = block * 100 + below(6) * 10 + below(10);
        for (int i = 0; i < 12 && chairs > 0 && model.chair(code) == -1; i++) {
            code = block * 100 + below(6) * 10 + below(10);
        }
        return below(30) == 0 ? near(600) : code;
    }

    private void due(String call, int got, int want) {
        Due.due(name + call, got, want);
    }

    private void step(int call) {
        int draw = below(100);
        if (draw < 4 || call < SET_UP) {
            blockOrStage(call);
        } else if (draw < 14) {
            stages();
        } else if (draw < 70) {
            groups(draw);
        } else if (draw < (late ? 79 : crowded ? 72 : 76)) {
            int minutes = someMinutes();
            due("pass(" + minutes + ")", real.pass(minutes), model.pass(minutes));
        } else if (draw < 80) {
            closing();
        } else if (draw < 84) {
            due("undo()", real.undo(), model.undo());
        } else {
            program();
        }
        look();
        if (call % 40 == 39) {
            lookAtAll();
        }
    }

    private void blockOrStage(int call) {
        boolean stage = call < SET_UP ? call >= (crowded ? 6 : 4) : below(2) == 0;
        if (stage) {
            due("addStage()", real.addStage(), model.addStage());
            return;
        }
        int rows = 1 + near(crowded ? 1 : below(2) == 0 ? 2 : 6);
        int chairs = 1 + near(crowded ? 5 : 10);
        int price = below(4) == 0 ? 1 + near(500) : spread * (1 + below(4));
        due("addBlock(" + rows + ", " + chairs + ", " + price + ")",
            real.addBlock(rows, chairs, price), model.addBlock(rows, chairs, price));
    }

    private void stages() {
        int stage = someStage();
        int draw = below(5);
        if (draw < 2) {
            due("putUp(" + stage + ")", real.putUp(stage), model.putUp(stage));
        } else if (draw == 2) {
            due("takeDown(" + stage + ")", real.takeDown(stage), model.takeDown(stage));
        } else {
            int from = someChair();
            int to = from;
            for (int i = 0; i < 4 && below(6) != 0; i++) {
                int next = to + (below(2) == 0 ? 1 : 10);
                to = model.chair(next) == -1 && below(12) != 0 ? to : next;
            }
            to = below(10) == 0 ? someChair() : to;
            due("addPiece(" + stage + ", " + from + ", " + to + ")",
                real.addPiece(stage, from, to), model.addPiece(stage, from, to));
        }
    }

    private void groups(int draw) {
        int hold = likelyHold();
        int ticket = likelyTicket();
        if (draw < 32) {
            int block = someBlock();
            int many = someMany();
            int minutes = someMinutes();
            due("hold(" + block + ", " + many + ", " + minutes + ")",
                real.hold(block, many, minutes), model.hold(block, many, minutes));
        } else if (draw < 49) {
            due("buy(" + hold + ")", real.buy(hold), model.buy(hold));
        } else if (draw < 51) {
            due("drop(" + hold + ")", real.drop(hold), model.drop(hold));
        } else if (draw < 55) {
            due("giveBack(" + ticket + ")", real.giveBack(ticket), model.giveBack(ticket));
        } else if (draw < (crowded ? 55 : 57)) {
            due("comeIn(" + ticket + ")", real.comeIn(ticket), model.comeIn(ticket));
        } else {
            upgrades(ticket);
        }
    }

    /** In a crowded stadium mostly tickets whose chain is long, because short ones use the room up. */
    private void upgrades(int ticket) {
        if (!crowded || model.chain(ticket) > 1 || below(12) == 0) {
            due("upgrade(" + ticket + ")", real.upgrade(ticket), model.upgrade(ticket));
        }
    }

    private void closing() {
        if (below(crowded ? 40 : 10) == 0) {
            due("closeDoors()", real.closeDoors(), model.closeDoors());
        } else {
            due("clearText()", real.clearText(), model.clearText());
        }
    }

    private void program() {
        if (below(8) != 0) {
            due("clearText()", real.clearText(), model.clearText());
        }
        int most = below(5) == 0 ? 12 : 4;
        int orders = below(most);
        for (int i = 0; i < orders; i++) {
            write(order());
        }
        if (below(12) == 0) {
            int character = near(256);
            due("append(" + character + ")", real.append(character), model.append(character));
        }
        due("run()", real.run(), model.run());
    }

    private void write(String part) {
        for (int i = 0; i < part.length(); i++) {
            int sign = part.charAt(i);
            due("append(" + sign + ")", real.append(sign), model.append(sign));
        }
    }

    private String order() {
        StringBuilder made = new StringBuilder(gap());
        int word = below(7);
        made.append(WORDS[word]);
        int[] numbers = new int[] {word == 1 || word == 2 ? likelyHold() : word == 5 ? someStage()
            : word == 6 ? someMinutes() : likelyTicket()};
        if (word == 0) {
            numbers = new int[] {someBlock(), someMany(), someMinutes()};
        }
        for (int i = 0; i < numbers.length; i++) {
            made.append(i == 0 ? gap() : " " + gap()).append(numbers[i]);
        }
        made.append(gap()).append(';').append(gap());
        if (below(20) == 0) {
            int at = below(made.length());
            made.setCharAt(at, " ;0x9aA\t!\u00e9".charAt(below(10)));
        }
        if (below(20) == 0) {
            made.setLength(below(made.length()));
        }
        return made.toString();
    }

    private String gap() {
        return " ".repeat(below(5) == 0 ? 1 + below(2) : 0);
    }

    private void look() {
        int block = someBlock();
        int many = someMany();
        int ticket = someTicket();
        int stage = someStage();
        int hold = someHold();
        int what = near(15);
        due("count(" + what + ")", real.count(what), model.count(what));
        due("block(" + block + ", " + what + ")", real.block(block, what), model.block(block, what));
        due("place(" + block + ", " + many + ")", real.place(block, many), model.place(block, many));
        due("chain(" + ticket + ")", real.chain(ticket), model.chain(ticket));
        due("wouldKill(" + stage + ")", real.wouldKill(stage), model.wouldKill(stage));
        due("cheapest(" + many + ")", real.cheapest(many), model.cheapest(many));
        due("nextExpiry()", real.nextExpiry(), model.nextExpiry());
        due("holdOf(" + hold + ", " + what + ")", real.holdOf(hold, what), model.holdOf(hold, what));
        due("ticket(" + ticket + ", " + what + ")", real.ticket(ticket, what), model.ticket(ticket, what));
    }

    private void lookAtAll() {
        for (int what = -1; what < 16; what++) {
            due("count(" + what + ")", real.count(what), model.count(what));
            for (int i = -1; i < 7; i++) {
                due("block(" + i + ", " + what + ")", real.block(i, what), model.block(i, what));
            }
        }
        for (int i = -1; i < 21; i++) {
            for (int what = -1; what < 6; what++) {
                due("holdOf(" + i + ", " + what + ")", real.holdOf(i, what), model.holdOf(i, what));
                due("ticket(" + i + ", " + what + ")", real.ticket(i, what), model.ticket(i, what));
            }
            due("chain(" + i + ")", real.chain(i), model.chain(i));
        }
        for (int code = -2; code < 702; code++) {
            due("chair(" + code + ")", real.chair(code), model.chair(code));
        }
    }
}
