import java.io.IOException;
import java.io.UncheckedIOException;
import java.nio.charset.StandardCharsets;
import java.nio.file.Files;
import java.nio.file.Path;
import java.util.ArrayList;
import java.util.HashMap;
import java.util.LinkedHashMap;
import java.util.List;
import java.util.Map;

/**
 * Tests of single sentences of the document. Each begins with of(), which says the section and the sentence that it
 * stands for, and goes on with runs of calls, told as "call = answer, call = answer"; a call without an answer has to
 * succeed. Where an error is due, it is also tried that the call changes nothing.
 */
final class Edge {
    private static final Path DOCUMENT = Path.of("../shared/DOC.md");
    private static final Map<String, String> SECTIONS = sections();
    private static final Map<String, List<String>> TESTED = new HashMap<>();

    private static final int MOST_STATES = 5;

    /** The promises that the sections of the terms belong to. */
    private static final Map<String, String> PROMISES = Map.of(
        "What it is", "Promises 1 to 28, What it is",
        "Blocks and chairs", "Promises 2, 20 and 21, Blocks and chairs",
        "Stages", "Promises 3 to 6 and 25, Stages",
        "Time and holds", "Promises 7, 9, 13, 22 and 28, Time and holds",
        "Placing", "Promises 7, 12, 20, 24 and 27, Placing",
        "Tickets", "Promises 8, 10, 11, 14 and 23, Tickets",
        "Upgrades", "Promises 12 and 26, Upgrades",
        "Programs", "Promises 16 to 18, Programs",
        "Undo", "Promise 15 and all actions, Undo",
        "Errors", "Promises 1 to 28, Errors");

    private static String told = "";

    private Edge() {
    }

    /** Begins the test of a sentence, or of a part of one, in the document's own words. */
    static void of(String section, String sentence) {
        told = PROMISES.getOrDefault(section, section) + ", \"" + sentence + "\": ";
        Due.holds(told + "stands in the document", SECTIONS.getOrDefault(section, "").contains(sentence));
        TESTED.computeIfAbsent(section, s -> new ArrayList<>()).add(sentence);
    }

    static void play(String run) {
        playAll(calls(run));
    }

    /** Makes the first calls, runs a text as a program, and makes the other calls. */
    static void program(String before, String text, int answer, String after) {
        List<String> run = calls(before);
        run.addAll(text(text));
        run.add("run = " + answer);
        run.addAll(calls(after));
        playAll(run);
    }

    /** A call records one state, which is the one before it. */
    static void action(String before, String call, int answer) {
        List<String> run = calls(before);
        List<String> done = new ArrayList<>();
        for (String step : run) {
            done.add(callOf(step));
        }
        int states = View.played(done).count(13);
        playAll(run);
        String state = View.state(done);
        List<String> earlier = earlier(done, states);
        done.add(call);
        Due.due(told + call + " after " + run, Calls.on(View.played(done.subList(0, run.size())), call), answer);
        Due.due(told + "states after " + call, View.played(done).count(13), states + 1);
        done.add("undo");
        Due.due(told + "states after its undo", View.played(done).count(13), states);
        same(call + " is undone", View.state(done), state);
        Due.holds(told + call + " leaves the earlier states", earlier(done, states).equals(earlier));
    }

    /** A program does what calls do, and records one state. */
    static void programDoes(String before, String text, int orders, String calls) {
        List<String> run = calls(before);
        List<String> direct = new ArrayList<>(run);
        direct.addAll(calls(calls));
        playAll(direct);
        List<String> written = new ArrayList<>(run);
        written.addAll(text(text));
        written.add("run = " + orders);
        playAll(written);
        same(text, View.state(plain(written)), View.state(plain(direct)));
        int states = View.played(plain(run)).count(13);
        Due.due(told + "states after " + text, View.played(plain(written)).count(13),
            Math.min(MOST_STATES, states + 1));
    }

    /** A call changes nothing, whatever it answers. */
    static void changesNothing(String before, String call) {
        List<String> done = plain(calls(before));
        String whole = View.whole(done);
        done.add(call);
        same(call + " changes nothing", View.whole(done), whole);
    }

    /** So many times the same calls, with the number of the time, from 0, for each "#". */
    static String times(int many, String run) {
        StringBuilder made = new StringBuilder();
        for (int i = 0; i < many; i++) {
            made.append(i == 0 ? "" : ", ").append(run.replace("#", Integer.toString(i)));
        }
        return made.toString();
    }

    /** Calls that append a text. */
    static String write(String text) {
        return String.join(", ", text(text));
    }

    /** Every sentence of the document has a test that stands for it, but for those that name nothing to try. */
    static void everySentenceIsTested(List<String> withoutEdge) {
        told = "";
        for (Map.Entry<String, String> section : SECTIONS.entrySet()) {
            List<String> tested = TESTED.getOrDefault(section.getKey(), List.of());
            for (String part : parts(section.getValue())) {
                boolean found = withoutEdge.contains(part);
                for (String sentence : tested) {
                    found = found || part.contains(sentence) || sentence.contains(part);
                }
                Due.holds(section.getKey() + ", \"" + part + "\" is tested", found);
            }
        }
    }

    private static List<String> calls(String run) {
        List<String> made = new ArrayList<>();
        for (String step : run.split(",")) {
            if (!step.isBlank()) {
                made.add(step.trim());
            }
        }
        return made;
    }

    private static List<String> text(String text) {
        List<String> made = new ArrayList<>();
        for (int i = 0; i < text.length(); i++) {
            made.add("append " + (int) text.charAt(i));
        }
        return made;
    }

    private static List<String> plain(List<String> run) {
        List<String> made = new ArrayList<>();
        for (String step : run) {
            made.add(callOf(step));
        }
        return made;
    }

    private static String callOf(String step) {
        return step.split(" = ")[0];
    }

    private static void playAll(List<String> run) {
        List<String> done = new ArrayList<>();
        SightBlocks x = new SightBlocks();
        String whole = null;
        for (String step : run) {
            String call = callOf(step);
            int got = Calls.on(x, call);
            String where = told + call + " after " + shown(done);
            done.add(call);
            if (!step.contains(" = ")) {
                Due.holds(where + " succeeds with " + got, got >= 0);
                whole = null;
                continue;
            }
            int want = Integer.parseInt(step.split(" = ")[1]);
            Due.due(where, got, want);
            if (!isRefused(call, want)) {
                whole = null;
                continue;
            }
            String before = whole == null ? View.whole(done.subList(0, done.size() - 1)) : whole;
            whole = View.whole(done);
            same(call + " is refused after " + shown(done), whole, before);
        }
        Due.holds(told + "no more than 512 calls", done.size() <= View.MOST_CALLS);
    }

    /** NONE is no error, and a program that fails tells the place by its answer. */
    private static boolean isRefused(String call, int want) {
        return want < 0 && want != SightBlocks.NONE;
    }

    private static String shown(List<String> done) {
        return done.size() <= 12 ? done.toString() : ".. " + done.subList(done.size() - 12, done.size());
    }

    private static void same(String what, String got, String want) {
        if (!got.equals(want)) {
            int at = 0;
            while (at < got.length() && at < want.length() && got.charAt(at) == want.charAt(at)) {
                at++;
            }
            int from = Math.max(0, at - 30);
            System.out.println(told + what + ": .." + got.substring(from, Math.min(got.length(), at + 30))
                + ".. where ..." + want.substring(from, Math.min(want.length(), at + 30)) + ".. is due");
        }
        Due.holds(told + what, got.equals(want));
    }

    /** What can be seen after each further undo. */
    private static List<String> earlier(List<String> done, int states) {
        List<String> seen = new ArrayList<>();
        List<String> run = new ArrayList<>(done);
        for (int i = 0; i < states; i++) {
            run.add("undo");
            seen.add(View.state(run));
        }
        return seen;
    }

    /** The document's text by its headings, each on one line, without the signatures of the calls. */
    private static Map<String, String> sections() {
        Map<String, String> found = new LinkedHashMap<>();
        String heading = "";
        boolean code = false;
        for (String line : lines()) {
            code ^= line.startsWith("```");
            if (code || line.startsWith("```")) {
                continue;
            }
            if (line.startsWith("#")) {
                heading = line.replaceAll("^#+ ", "").replaceAll("^(Promise \\d+):.*", "$1");
            } else if (!line.isBlank()) {
                String text = line.replaceAll("^- ", "").replaceAll("^`[^`]*\\)`: ", "");
                found.merge(heading, text, (before, more) -> before + "\n" + more);
            }
        }
        return found;
    }

    private static List<String> lines() {
        try {
            return Files.readAllLines(DOCUMENT, StandardCharsets.UTF_8);
        } catch (IOException e) {
            throw new UncheckedIOException(e);
        }
    }

    /** The sentences of a section, and of one that tells what is returned each of its clauses. */
    private static List<String> parts(String section) {
        List<String> made = new ArrayList<>();
        for (String line : section.split("\n")) {
            for (String sentence : line.split("(?<=\\.) ")) {
                String split = sentence.startsWith("Returns") ? "; " : "\n";
                made.addAll(List.of(sentence.split(split)));
            }
        }
        return made;
    }
}
