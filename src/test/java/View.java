import java.util.ArrayList;
import java.util.List;

/**
 * Everything that can be seen of a stadium after a run of calls. The run is played again on new objects as often as
 * is needed, because an object answers no more than 512 calls.
 */
final class View {
    static final int MOST_CALLS = 512;
    private static final int COUNTS = 15;
    private static final int FEWEST_QUESTIONS = 20;

    private View() {
    }

    static SightBlocks played(List<String> calls) {
        SightBlocks x = new SightBlocks();
        for (String call : calls) {
            Calls.on(x, call);
        }
        return x;
    }

    /** What can be seen now, after each undo, and after the text has been run, which alone shows what it says. */
    static String whole(List<String> calls) {
        StringBuilder told = new StringBuilder();
        List<String> run = new ArrayList<>(calls);
        int states = played(calls).count(13);
        for (int state = 0; state <= states; state++) {
            told.append(now(run)).append('\n');
            run.add("undo");
        }
        run = new ArrayList<>(calls);
        told.append("run ").append(Calls.on(played(run), "run")).append('\n');
        run.add("run");
        return told.append(now(run)).toString();
    }

    /** What can be seen now, the number of states and the length of the text too. */
    static String now(List<String> calls) {
        return told(calls, COUNTS);
    }

    /** What belongs to a state, which is everything but the text and the history. */
    static String state(List<String> calls) {
        return told(calls, COUNTS - 2);
    }

    private static String told(List<String> calls, int counts) {
        StringBuilder told = new StringBuilder();
        SightBlocks x = null;
        int left = 0;
        for (String question : questions(played(calls), counts)) {
            if (left <= 0) {
                x = played(calls);
                left = Math.max(FEWEST_QUESTIONS, MOST_CALLS - calls.size());
            }
            told.append(question).append(" = ").append(Calls.on(x, question)).append(", ");
            left--;
        }
        return told.toString();
    }

    private static List<String> questions(SightBlocks x, int counts) {
        List<String> made = new ArrayList<>();
        fill(made, "count #", counts);
        int blocks = x.count(1);
        for (int block = 0; block < blocks; block++) {
            fill(made, "block " + block + " #", 9);
            chairs(made, x, block);
            for (int many = 1; many <= 10; many++) {
                made.add("place " + block + " " + many);
            }
        }
        fill(made, "wouldKill #", x.count(2));
        int holds = x.count(4);
        for (int hold = 0; hold < holds; hold++) {
            fill(made, "holdOf " + hold + " #", 5);
        }
        int tickets = x.count(6);
        for (int ticket = 0; ticket < tickets; ticket++) {
            fill(made, "ticket " + ticket + " #", 5);
        }
        fill(made, "chain #", tickets);
        fill(made, "cheapest #", 11);
        made.add("nextExpiry");
        return made;
    }

    private static void chairs(List<String> made, SightBlocks x, int block) {
        int rows = 0;
        while (rows < 6 && x.chair(block * 100 + rows * 10) >= 0) {
            rows++;
        }
        int chairs = 0;
        while (chairs < 10 && x.chair(block * 100 + chairs) >= 0) {
            chairs++;
        }
        for (int row = 0; row < rows; row++) {
            fill(made, "chair " + (block == 0 && row == 0 ? "" : block * 10 + row) + "#", chairs);
        }
    }

    private static void fill(List<String> made, String question, int many) {
        for (int i = 0; i < many; i++) {
            made.add(question.replace("#", Integer.toString(i)));
        }
    }
}
