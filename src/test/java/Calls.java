/** Calls of the class, told as texts like "hold 0 2 5"; "lowest" and "highest" are the ends of int. */
final class Calls {
    private Calls() {
    }

    static int on(SightBlocks x, String call) {
        String[] words = call.split(" ");
        int[] n = new int[words.length - 1];
        for (int i = 0; i < n.length; i++) {
            n[i] = number(words[i + 1]);
        }
        switch (n.length) {
            case 0:
                return bare(x, words[0]);
            case 1:
                return withOne(x, words[0], n[0]);
            case 2:
                return withTwo(x, words[0], n[0], n[1]);
            case 3:
                return withThree(x, words[0], n);
            default:
                throw new IllegalArgumentException(call);
        }
    }

    private static int number(String word) {
        if (word.equals("lowest")) {
            return Integer.MIN_VALUE;
        }
        return word.equals("highest") ? Integer.MAX_VALUE : Integer.parseInt(word);
    }

    private static int bare(SightBlocks x, String name) {
        switch (name) {
            case "addStage": return x.addStage();
            case "closeDoors": return x.closeDoors();
            case "undo": return x.undo();
            case "clearText": return x.clearText();
            case "run": return x.run();
            case "nextExpiry": return x.nextExpiry();
            default: throw new IllegalArgumentException(name);
        }
    }

    private static int withOne(SightBlocks x, String name, int n) {
        switch (name) {
            case "putUp": return x.putUp(n);
            case "takeDown": return x.takeDown(n);
            case "buy": return x.buy(n);
            case "drop": return x.drop(n);
            case "giveBack": return x.giveBack(n);
            case "comeIn": return x.comeIn(n);
            case "upgrade": return x.upgrade(n);
            case "pass": return x.pass(n);
            case "append": return x.append(n);
            case "count": return x.count(n);
            case "chair": return x.chair(n);
            case "wouldKill": return x.wouldKill(n);
            case "chain": return x.chain(n);
            case "cheapest": return x.cheapest(n);
            default: throw new IllegalArgumentException(name);
        }
    }

    private static int withTwo(SightBlocks x, String name, int n, int m) {
        switch (name) {
            case "block": return x.block(n, m);
            case "holdOf": return x.holdOf(n, m);
            case "ticket": return x.ticket(n, m);
            case "place": return x.place(n, m);
            default: throw new IllegalArgumentException(name);
        }
    }

    private static int withThree(SightBlocks x, String name, int[] n) {
        switch (name) {
            case "addBlock": return x.addBlock(n[0], n[1], n[2]);
            case "addPiece": return x.addPiece(n[0], n[1], n[2]);
            case "hold": return x.hold(n[0], n[1], n[2]);
            default: throw new IllegalArgumentException(name);
        }
    }
}
