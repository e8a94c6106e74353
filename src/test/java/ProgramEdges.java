/** The sentences about the text and the programs in it: Promises 16, 17 and 18. */
final class ProgramEdges {
    private static final String FLOOR = "addBlock 1 9 10, addBlock 1 9 20, addStage, addPiece 0 8 8";
    private static final String SOLD = FLOOR + ", hold 0 2 9, hold 0 1 9, buy 0";
    /** The minute tells what a program of waits has done. */
    private static final String NOT_WAITED = "count 0 = 0, count 13 = 0";

    private ProgramEdges() {
    }

    static void run() {
        atMostCharacters();
        possiblyNone();
        endsWithSemicolon();
        words();
        numbersOfEachWord();
        otherWords();
        letters();
        digits();
        otherCharacters();
        numberOfDigits();
        firstDigit();
        spaces();
        neededSpaces();
        oneByOne();
        asItsSemicolonIsRead();
        firstTokenNotAllowed();
        firstOrderWithAnError();
        errorsOfEachOrder();
        placeOfAToken();
        placeAtTheEnd();
        nothingStays();
        append();
        noRoomForACharacter();
        clearText();
        runIsOneAction();
        textBecomesEmpty();
        runReturns();
        runFails();
    }

    /** Runs a text on a new object. */
    private static void bare(String text, int answer, String after) {
        Edge.program("", text, answer, after);
    }

    private static void fails(String text, int place) {
        bare(text, -1000 - place, NOT_WAITED + ", count 14 = " + text.length());
    }

    private static void atMostCharacters() {
        Edge.of("Programs", "A text of at most 120 characters can be run as a program");
        bare("wait1;".repeat(20), 20, "count 0 = 20");
        bare("wait1;" + " ".repeat(114), 1, "count 0 = 1, count 14 = 0");
        bare(" ".repeat(114) + "wait1;", 1, "count 0 = 1");
        bare(" ".repeat(120), 0, "count 13 = 1");
        fails(" ".repeat(119) + "x", 119);
        fails(" ".repeat(115) + "wait1", 120);
        fails("wait" + " ".repeat(116), 120);
        Edge.program("", "wait1;".repeat(20), 20, Edge.write("wait2;") + ", run = 1, count 0 = 22");
        // The 121st character is not taken, so the program is what it was.
        Edge.play(Edge.write("wait1;".repeat(20)) + ", append 120 = -3, run = 20, count 0 = 20");
    }

    private static void possiblyNone() {
        Edge.of("Programs", "orders (possibly none)");
        bare("", 0, "count 13 = 1, undo = 0, count 13 = 0");
        bare(" ", 0, "count 13 = 1");
        fails(";", 0);
        fails(" ;", 1);
        fails("wait 1;;", 7);
    }

    private static void endsWithSemicolon() {
        Edge.of("Programs", "each of which ends with \";\"");
        bare("wait 1;", 1, "count 0 = 1");
        bare("wait 1;wait 2;", 2, "count 0 = 3");
        fails("wait 1", 6);
        fails("wait 1;wait 2", 13);
        fails("wait 1 wait 2;", 7);
        fails("wait 1,wait 2;", 6);
        fails("wait 1:", 6);
        fails("wait 1.", 6);
    }

    private static void words() {
        Edge.of("Programs", "\"hold\" BLOCK MANY MINUTES, \"buy\" HOLD, \"drop\" HOLD, \"back\" TICKET (giveBack), "
            + "\"in\" TICKET (comeIn), \"up\" STAGE (putUp), \"wait\" MINUTES (pass)");
        Edge.programDoes(SOLD, "hold 1 2 3;", 1, "hold 1 2 3 = 2, holdOf 2 1 = 100, holdOf 2 2 = 2, holdOf 2 3 = 3");
        Edge.programDoes(SOLD, "buy 1;", 1, "buy 1 = 1");
        Edge.programDoes(SOLD, "drop 1;", 1, "drop 1 = 1");
        Edge.programDoes(SOLD, "back 0;", 1, "giveBack 0 = 15");
        Edge.programDoes(SOLD, "in 0;", 1, "comeIn 0 = 2");
        Edge.programDoes(SOLD, "up 0;", 1, "putUp 0 = 1");
        Edge.programDoes(SOLD, "wait 9;", 1, "pass 9 = 1");
        Edge.programDoes(SOLD, "wait 8;buy 1;up 0;in 0;wait 1;hold 1 9 999;back 1;", 7,
            "pass 8, buy 1, putUp 0, comeIn 0, pass 1, hold 1 9 999, giveBack 1");
        Edge.programDoes(SOLD + ", closeDoors", "buy 1;", 1, "buy 1 = 1, ticket 1 0 = 2");
    }

    private static void numbersOfEachWord() {
        Edge.of("Programs", "a word and then numbers");
        Edge.program(SOLD, "hold 1 2;", -1008, "");
        Edge.program(SOLD, "hold 1;", -1006, "");
        Edge.program(SOLD, "hold;", -1004, "");
        Edge.program(SOLD, "hold 1 2 3 4;", -1011, "");
        Edge.program(SOLD, "buy;", -1003, "");
        Edge.program(SOLD, "buy 1 1;", -1006, "");
        Edge.program(SOLD, "drop;", -1004, "");
        Edge.program(SOLD, "drop 1 1;", -1007, "");
        Edge.program(SOLD, "back;", -1004, "");
        Edge.program(SOLD, "back 0 0;", -1007, "");
        Edge.program(SOLD, "in;", -1002, "");
        Edge.program(SOLD, "in 0 0;", -1005, "");
        Edge.program(SOLD, "up;", -1002, "");
        Edge.program(SOLD, "up 0 0;", -1005, "");
        Edge.program(SOLD, "wait;", -1004, "");
        Edge.program(SOLD, "wait 1 1;", -1007, "");
        Edge.program(SOLD, "1 wait;", -1000, "");
        Edge.program(SOLD, "hold buy 1;", -1005, "");
        Edge.program(SOLD, "hold 1 buy 1;", -1007, "");
        Edge.program(SOLD, "hold 1 2 buy 1;", -1009, "");
    }

    private static void otherWords() {
        Edge.of("Programs", "orders (possibly none), each of which ends with \";\", a word and then numbers");
        for (String word : new String[] {"upgrade", "pass", "give", "giveback", "comein", "putup", "undo", "run",
            "down", "place", "waits", "wai", "ait", "w", "inn", "i", "u", "ups", "bac", "backs", "buys", "bu",
            "dro", "drops", "holds", "hol", "old", "hole", "bug", "drip", "bask", "is", "us", "want"}) {
            Edge.program(SOLD, " " + word + " 0;", -1001, "");
        }
    }

    private static void letters() {
        Edge.of("Programs", "Tokens are maximal runs of letters a to z");
        // A letter more makes it another word; a sign beside the letters stands for itself.
        fails("waita 1;", 0);
        fails("waitz 1;", 0);
        fails("await 1;", 0);
        fails("zwait 1;", 0);
        fails("wait` 1;", 4);
        fails("wait{ 1;", 4);
        fails("waitA 1;", 4);
        fails("waitZ 1;", 4);
        fails("WAIT 1;", 0);
        fails("Wait 1;", 0);
        fails("w@it 1;", 0);
        fails("wait 1a;", 6);
        fails("wait 1z;", 6);
        fails("waitwait 1;", 0);
        fails("wait 1;waita 1;", 7);
        fails("wait 1;wait` 1;", 11);
    }

    private static void digits() {
        Edge.of("Programs", "maximal runs of digits");
        bare("wait 10;", 1, "count 0 = 10");
        bare("wait 19;", 1, "count 0 = 19");
        bare("wait 90;", 1, "count 0 = 90");
        bare("wait 99;", 1, "count 0 = 99");
        bare("wait 123;", 1, "count 0 = 123");
        bare("wait 456;", 1, "count 0 = 456");
        bare("wait 789;", 1, "count 0 = 789");
        fails("wait 1/;", 6);
        fails("wait 1:;", 6);
        fails("wait /;", 5);
        fails("wait :;", 5);
        fails("wait -1;", 5);
        fails("wait +1;", 5);
        fails("wait 1.0;", 6);
        fails("wait 1" + (char) 178 + ";", 6);
    }

    private static void otherCharacters() {
        Edge.of("Programs", "any other character that is no space");
        // Each stands alone, so that the first of two is the place where it fails.
        fails("!!wait 1;", 0);
        fails(" !wait 1;", 1);
        fails("wait !! 1;", 5);
        fails("wait 1 !!;", 7);
        fails("wait 1;!", 7);
        fails("wait 1;;;", 7);
        for (int code : new int[] {1, 9, 10, 13, 31, 33, 127, 128, 160, 255}) {
            fails("wait" + (char) code + "1;", 4);
            fails("wait 1;" + (char) code, 7);
            fails((char) code + "wait 1;", 0);
        }
    }

    private static void numberOfDigits() {
        Edge.of("Programs", "A number is a run of 1 to 4 digits");
        bare("wait 1;", 1, "count 0 = 1");
        bare("wait 999;", 1, "count 0 = 999");
        // With four digits it is a number, which the call refuses; with five it is none.
        fails(" wait 1000;", 1);
        fails(" wait 9999;", 1);
        fails(" wait 10000;", 6);
        fails(" wait 99999;", 6);
        fails(" wait 1234567890123;", 6);
        fails(" wait 4294967297;", 6);
        fails(" wait ;", 6);
        Edge.program(FLOOR, " hold 0 1 10000;", -1010, "");
        Edge.program(FLOOR, " hold 0 1 1000;", -1001, "");
        Edge.program(FLOOR, " hold 0 10000 1;", -1008, "");
        Edge.program(FLOOR, " hold 10000 1 1;", -1006, "");
        Edge.program(FLOOR, " buy 10000;", -1005, "");
        Edge.program(FLOOR, " buy 9999;", -1001, "");
    }

    private static void firstDigit() {
        Edge.of("Programs", "the first of several not 0.");
        fails(" wait 0;", 1);
        fails(" wait 00;", 6);
        fails(" wait 01;", 6);
        fails(" wait 0001;", 6);
        fails(" wait 0000;", 6);
        bare(" wait 10;", 1, "count 0 = 10");
        bare(" wait 100;", 1, "count 0 = 100");
        Edge.program(SOLD, "in 0;", 1, "ticket 0 0 = 2");
        Edge.program(SOLD, "in 00;", -1003, "");
        Edge.program(SOLD, "hold 1 1 05;", -1009, "");
        Edge.program(SOLD, "hold 01 1 5;", -1005, "");
    }

    private static void spaces() {
        Edge.of("Programs", "Spaces (code 32) may stand before, between and after tokens");
        bare("   wait   1   ;   wait   2   ;   ", 2, "count 0 = 3");
        bare("wait 1 ;", 1, "count 0 = 1");
        bare(" wait 1;", 1, "count 0 = 1");
        bare("wait 1; ", 1, "count 0 = 1");
        Edge.program(FLOOR, "  hold  1  2  3  ;  ", 1, "holdOf 0 1 = 100, holdOf 0 2 = 2, holdOf 0 3 = 3");
        // Inside a token a space makes two of it.
        fails("wa it 1;", 0);
        fails("wait 1 0;", 7);
    }

    private static void neededSpaces() {
        Edge.of("Programs", "they are needed only between two runs of letters and between two runs of digits.");
        bare("wait1;wait2;", 2, "count 0 = 3");
        Edge.program(FLOOR, "hold1 2 3;buy0;in0;up0;", 4, "count 0 = 0, block 1 4 = 2, chair 8 = 10");
        Edge.program(FLOOR, "hold123;", -1007, "");
        Edge.program(FLOOR, "hold1 23;", -1008, "");
        fails("waitwait1;", 0);
        fails("wait1wait1;", 5);
        fails("wait 1wait 1;", 6);
    }

    private static void oneByOne() {
        Edge.of("Programs", "The orders are read and run one by one");
        Edge.program(FLOOR, "hold 1 2 3;buy 0;in 0;", 3, "count 4 = 1, count 6 = 1, block 1 4 = 2");
        Edge.program(FLOOR, "buy 0;hold 1 2 3;", -1000, "");
        Edge.program(FLOOR, "hold 1 2 3;wait 3;drop 0;", -1018, "");
        Edge.program(FLOOR, "hold 1 2 3;wait 2;drop 0;", 3, "holdOf 0 0 = 2");
        Edge.program(FLOOR, "hold 0 9 3;up 0;", -1011, "");
        Edge.program(FLOOR, "hold 0 9 3;drop 0;up 0;", 3, "chair 8 = 10");
        Edge.program(FLOOR, "up 0;hold 0 9 3;", -1005, "");
    }

    private static void asItsSemicolonIsRead() {
        Edge.of("Programs", "each as its \";\" is read.");
        // An order that its call refuses comes before what is wrong behind its ";", but not before what is wrong ahead.
        fails("wait 0;x", 0);
        fails("wait 0;", 0);
        fails("wait 0 x;", 7);
        fails("wait 0", 6);
        fails("wait 0 0;", 7);
        fails("wait 1;wait 0;x", 7);
        fails("wait 1;wait 0 x", 14);
        Edge.program(FLOOR, "hold 9 1 1 ,", -1011, "");
        Edge.program(FLOOR, "hold 9 1 1 ;,", -1000, "");
    }

    private static void firstTokenNotAllowed() {
        Edge.of("Programs", "A program fails at the first token that is not allowed where it stands");
        fails("x y z", 0);
        fails("wait x y", 5);
        fails("wait 1 x ; y", 7);
        fails("wait 1; x y", 8);
        fails("1;", 0);
        fails("wait;;", 4);
        fails("wait wait", 5);
        Edge.program(FLOOR, "hold x", -1005, "");
        Edge.program(FLOOR, "hold 1 x", -1007, "");
        Edge.program(FLOOR, "hold 1 1 x", -1009, "");
        Edge.program(FLOOR, "hold 1 1 1 x", -1011, "");
    }

    private static void firstOrderWithAnError() {
        Edge.of("Programs",
            "at the first order whose call returns an error code (the place is then that of its word).");
        fails("wait 0;wait 0;", 0);
        fails("  wait 0  ;", 2);
        fails("wait 1;wait 1000;wait 0;", 7);
        fails("wait 1; wait 2; wait 0;", 16);
        // An answer of 0 is no error.
        Edge.program("addBlock 1 2 1", "hold 0 1 1;buy 0;back 0;", 3, "count 10 = 0");
        Edge.program("addStage", "up 0;wait 1;", 2, "count 3 = 1");
    }

    private static void errorsOfEachOrder() {
        Edge.of("Programs", "whose call returns an error code");
        String full = "addBlock 2 10 9, " + Edge.times(20, "hold 0 1 9");
        Edge.program(FLOOR, " hold 2 1 1;", -1001, "");
        Edge.program(FLOOR, " hold 0 10 1;", -1001, "");
        Edge.program(full + ", drop 0", " hold 0 1 1;", -1001, "");
        Edge.program(full, " buy 20;", -1001, "");
        Edge.program(SOLD, " buy 0;", -1001, "");
        Edge.program(SOLD, " drop 2;", -1001, "");
        Edge.program(SOLD, " drop 0;", -1001, "");
        Edge.program(SOLD, " back 1;", -1001, "");
        Edge.program(SOLD + ", comeIn 0", " back 0;", -1001, "");
        Edge.program(SOLD, " in 1;", -1001, "");
        Edge.program(SOLD + ", closeDoors", " in 0;", -1001, "");
        Edge.program(SOLD, " up 1;", -1001, "");
        Edge.program(SOLD + ", putUp 0", " up 0;", -1001, "");
        Edge.program(SOLD + ", addPiece 0 0 0", " up 0;", -1001, "");
        Edge.program(SOLD, " wait 1000;", -1001, "");
        Edge.program(Edge.times(10, "pass 999") + ", pass 8", " wait 2;", -1001, "count 0 = 9998");
        Edge.program(Edge.times(10, "pass 999") + ", pass 8", " wait 1;", 1, "count 0 = 9999");
        Edge.program(Edge.times(10, "pass 999") + ", pass 8", " wait 1; wait 1;", -1009, "count 0 = 9998");
    }

    private static void placeOfAToken() {
        Edge.of("Programs", "The place of a failure is the offset (from 0) of the first character of the token");
        fails("xyz", 0);
        fails("   xyz", 3);
        fails("wait xyz", 5);
        fails("wait 12345;", 5);
        fails("wait 1;   xyz", 10);
        fails(" ".repeat(119) + "!", 119);
        fails(" ".repeat(113) + "wait 0;", 113);
    }

    private static void placeAtTheEnd() {
        Edge.of("Programs", "or the length of the text if it ends where something is missing.");
        fails("wait", 4);
        fails("wait ", 5);
        fails("wait 1", 6);
        fails("wait 1  ", 8);
        fails("wait 0", 6);
        fails("wait 1;wait", 11);
        bare("wait 1;", 1, "");
        bare("wait 1;   ", 1, "");
        // A token that is wrong itself is the place, also if it is the last one.
        fails("wai", 0);
        fails("wait 01", 5);
        Edge.program(FLOOR, "hold", -1004, "");
        Edge.program(FLOOR, "hold 1", -1006, "");
        Edge.program(FLOOR, "hold 1 1", -1008, "");
        Edge.program(FLOOR, "hold 1 1 1", -1010, "");
        Edge.program(FLOOR, "hold 1 1 1;", 1, "");
        for (String word : new String[] {"buy", "drop", "back", "in", "up"}) {
            Edge.program(SOLD, word, -1000 - word.length(), "");
            Edge.program(SOLD, word + " 0", -1002 - word.length(), "");
        }
    }

    private static void nothingStays() {
        Edge.of("Programs", "If a program fails, nothing that it has done stays.");
        Edge.program(SOLD, "hold 1 2 3;buy 1;drop 2;in 0;back 1;up 0;wait 99;x", -1049, "");
        Edge.program(SOLD, "hold 1 2 3;buy 1;drop 2;in 0;back 1;up 0;wait 99;x 1", -1049,
            "count 0 = 0, count 3 = 0, count 4 = 2, count 5 = 1, count 6 = 1, count 9 = 20, count 10 = 0, "
            + "chair 0 = 2, chair 2 = 1, chair 8 = 0, chair 100 = 0, undo = 4, count 6 = 0");
        Edge.program(SOLD, "wait 1;wait 0;", -1007, "count 0 = 0");
        Edge.program(SOLD, "wait 1;wait", -1011, "count 0 = 0");
        // What was a state before is one still, and the failed program is none.
        Edge.program("pass 1, pass 2, pass 3, pass 4, pass 5, pass 6", "wait 7;wait 0;", -1007, "count 13 = 5, "
            + "undo = 4, count 0 = 15, undo = 3, undo = 2, undo = 1, undo = 0, count 0 = 1, undo = -2");
    }

    private static void append() {
        Edge.of("Promise 16", "`character`: character code, 1 to 255");
        Edge.play("append 0 = -1, append 256 = -1, append -1 = -1, append lowest = -1, append highest = -1, "
            + "count 14 = 0, append 1 = 1, append 255 = 2, count 14 = 2, append 0 = -1, append 256 = -1, "
            + "append 32 = 3, count 14 = 3");
        Edge.of("Promise 16", "INVALID_ARGUMENT if character is out of range");
        Edge.play(Edge.times(120, "append 32") + ", append 0 = -1, append 256 = -1, append 1 = -3, append 255 = -3");
        // A code beyond 255 is not cut down to one that is inside.
        Edge.play("append 315 = -1, append 65595 = -1, append -197 = -1, count 14 = 0");
        Edge.of("Promise 16", "Returns the new length of the text");
        Edge.play("append 32 = 1, append 32 = 2, " + Edge.times(117, "append 32") + ", count 14 = 119, "
            + "append 32 = 120, count 14 = 120");
        Edge.play("append 97 = 1, append 97 = 2, clearText = 2, append 97 = 1, append 97 = 2, append 97 = 3");
        Edge.of("Promise 16", "Appends a character to the text.");
        Edge.play("pass 3, count 13 = 1, " + Edge.write("wait 1;") + ", count 13 = 1, count 14 = 7, run = 1, "
            + "count 0 = 4");
        Edge.play("append 59, append 119, run = -1000, clearText, append 119, append 59, run = -1000, clearText, "
            + Edge.write("wait") + ", append 59, run = -1004");
    }

    private static void noRoomForACharacter() {
        Edge.of("Promise 16", "CAPACITY_EXCEEDED if the text already has 120 characters.");
        Edge.play(Edge.times(119, "append 32") + ", append 32 = 120, append 32 = -3, append 120 = -3, "
            + "count 14 = 120, clearText = 120, append 32 = 1");
        Edge.play(Edge.times(120, "append 32") + ", run = 0, append 32 = 1");
    }

    private static void clearText() {
        Edge.of("Promise 17", "Makes the text empty.");
        Edge.play(Edge.write("wait 1;") + ", clearText = 7, count 14 = 0, run = 0, count 0 = 0");
        Edge.play(Edge.write("wait 1;") + ", clearText, " + Edge.write("in 0;") + ", run = -1000, clearText = 5, "
            + Edge.write("wait") + ", run = -1004");
        Edge.play("pass 1, append 32, clearText = 1, count 13 = 1, undo = 0, count 0 = 0, count 14 = 0");
        Edge.of("Promise 17", "Returns the previous length of the text.");
        Edge.play("clearText = 0, append 97, clearText = 1, clearText = 0, " + Edge.times(120, "append 97")
            + ", clearText = 120, clearText = 0");
    }

    private static void runIsOneAction() {
        Edge.of("Promise 18", "Runs the text as a program.");
        Edge.programDoes(SOLD, "wait 1;buy 1;", 2, "pass 1, buy 1");
        Edge.of("Promise 18", "If it does not fail, this is one action, also without orders, "
            + "and the text becomes empty");
        Edge.action("addBlock 1 5 9, " + Edge.write("hold 0 2 5;buy 0;wait 3;"), "run", 3);
        Edge.action("addBlock 1 5 9, " + Edge.write("wait 3;"), "run", 1);
        Edge.action("addBlock 1 5 9", "run", 0);
        Edge.action("addBlock 1 5 9, append 32", "run", 0);
        Edge.play("pass 1, " + Edge.write("wait 2;wait 3;wait 4;") + ", run = 3, count 13 = 2, count 0 = 10, "
            + "undo = 1, count 0 = 1, undo = 0, count 0 = 0");
        Edge.play("pass 1, run = 0, run = 0, run = 0, run = 0, count 13 = 5, undo = 4, count 0 = 1, run = 0, "
            + "run = 0, count 13 = 5, undo = 4, undo = 3, undo = 2, undo = 1, undo = 0, count 0 = 1");
    }

    private static void textBecomesEmpty() {
        Edge.of("Promise 18", "the text becomes empty; if it fails, the text is kept.");
        bare("wait 1;", 1, "count 14 = 0, run = 0, count 0 = 1");
        bare("   ", 0, "count 14 = 0");
        bare("wait", -1004, "count 14 = 4, run = -1004, " + Edge.write(" 1;") + ", count 14 = 7, run = 1, "
            + "count 0 = 1, count 14 = 0");
        bare("wait 0;", -1000, "count 14 = 7, run = -1000, clearText = 7");
        bare("wait 1;", 1, "undo = 0, count 14 = 0, count 0 = 0, run = 0");
        Edge.program(Edge.times(10, "pass 999") + ", pass 8", "wait 2;", -1000, "undo, run = 1, count 0 = 9992");
    }

    private static void runReturns() {
        Edge.of("Promise 18", "Returns the number of orders");
        bare("", 0, "");
        bare("wait 1;", 1, "");
        bare("wait 1;wait 1;", 2, "");
        bare("wait1;".repeat(19), 19, "count 0 = 19");
        bare("wait1;".repeat(20), 20, "count 0 = 20");
        // The shortest orders there are: thirty in one text.
        Edge.program("addBlock 6 10 9, addStage, " + Edge.times(20, "hold 0 1 9") + ", " + Edge.times(20, "buy #"),
            "in0;in1;in2;in3;in4;in5;in6;in7;in8;in9;in10;in11;in12;in13;in14;in15;in16;in17;in18;in19;up0;", 21,
            "block 0 4 = 20, count 3 = 1");
    }

    private static void runFails() {
        Edge.of("Promise 18", "-1000 minus the place of the failure if it fails.");
        fails("x", 0);
        fails(" x", 1);
        fails(" ".repeat(118) + "x", 118);
        fails(" ".repeat(119) + "x", 119);
        fails(" ".repeat(114) + "wait 1", 120);
    }
}
