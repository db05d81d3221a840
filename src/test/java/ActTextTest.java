/** "Act text" and the promises 8 to 11 at their boundaries: a test for each sentence that names one. */
public final class ActTextTest extends Scenes {
    private static final String DIGITS = "0123456789";
    private static final String SIXTY = "+100;+120;-100;+140;-120;+160;-140;+180;-160;+199;-180;+20;.";

    public static void main(String[] args) {
        emptyBuffer();
        sixtyCharacters();
        codes();
        clearedBuffers();
        charactersOfAnAct();
        charactersOfAKey();
        charactersBehindAnAct();
        everyKey();
        keysOutOfRange();
        leadingZeros();
        placesOfTheFirstError();
        textsThatAreNotComplete();
        sixtyCharactersThatMayGoOn();
        oneAct();
        mostActs();
        leastAndGreatestKeyOfAText();
        upToTheActThatThrows();
        noActIsExecuted();
        roomInTheMidstOfAText();
        actsOfATextAreActs();
        executeClearsAndSaves();
        textsThatAreRefused();
        Checks.end("ActTextTest");
    }

    private static BackgroundRebuild typed(String text) {
        BackgroundRebuild x = new BackgroundRebuild();
        type(x, text);
        return x;
    }

    // ---- the buffer

    /** "It is empty at first." */
    private static void emptyBuffer() {
        BackgroundRebuild x = new BackgroundRebuild();
        Checks.due("length", x.count(8), 0);
        Checks.due("no error", x.firstError(), 0);
        Checks.throwsJust("no act text", ILLEGAL, () -> x.execute());
        Checks.due("nothing to clear", x.clearBuffer(), 0);
    }

    /** "The buffer holds at most 60 characters." */
    private static void sixtyCharacters() {
        BackgroundRebuild x = new BackgroundRebuild();
        for (int length = 1; length <= 60; length++) {
            Checks.due("new length", x.append('.'), length);
        }
        Checks.throwsJust("one more", STATE, () -> x.append('.'));
        Checks.throwsJust("even one that is out of range", ILLEGAL, () -> x.append(127));
        Checks.due("60 stay", x.count(8), 60);
        Checks.due("60 are cleared", x.clearBuffer(), 60);
        Checks.due("there is room again", x.append('.'), 1);
    }

    /** "a character code, 33 to 126" */
    private static void codes() {
        BackgroundRebuild x = new BackgroundRebuild();
        Checks.throwsJust("32", ILLEGAL, () -> x.append(32));
        Checks.due("33", x.append(33), 1);
        Checks.due("126", x.append(126), 2);
        Checks.throwsJust("127", ILLEGAL, () -> x.append(127));
        for (int code = 34; code < 126; code++) {
            BackgroundRebuild y = new BackgroundRebuild();
            Checks.due("code " + code, y.append(code), 1);
        }
    }

    /** "Returns the length that it had." of clearBuffer() */
    private static void clearedBuffers() {
        for (int length = 0; length <= 60; length++) {
            BackgroundRebuild x = typed(SIXTY.substring(0, length));
            Checks.due("length", x.clearBuffer(), length);
            Checks.due("cleared", x.count(8) + " " + x.firstError() + " " + x.clearBuffer(), "0 0 0");
        }
    }

    // ---- the first error

    /** What may stand behind a text without an error: each of the 94 characters is tried. */
    private static void mayFollow(String text, String allowed) {
        for (char next = 33; next <= 126; next++) {
            int due = text.length() + (allowed.indexOf(next) >= 0 ? 1 : 0);
            Checks.due("first error of " + text + next, typed(text + next).firstError(), due);
        }
    }

    /** "An act is: "+" ... or "-" ... or ".""; "one or more acts" */
    private static void charactersOfAnAct() {
        mayFollow("", "+-.");
        mayFollow(".;", "+-.");
        mayFollow("+5;", "+-.");
        mayFollow("-499;", "+-.");
    }

    /** "a key from 0 to 499 without leading zeros" */
    private static void charactersOfAKey() {
        mayFollow("+", DIGITS);
        mayFollow("-", DIGITS);
        mayFollow(".;+", DIGITS);
        mayFollow("+1", DIGITS + ";");
        mayFollow("-9", DIGITS + ";");
        mayFollow("+10", DIGITS + ";");
        mayFollow("-49", DIGITS + ";");
        mayFollow("+50", ";");
        mayFollow("-99", ";");
    }

    /** "with ";" between them" */
    private static void charactersBehindAnAct() {
        mayFollow(".", ";");
        mayFollow("+0", ";");
        mayFollow("-0", ";");
        mayFollow("+499", ";");
        mayFollow("-100", ";");
        mayFollow("+7;.", ";");
    }

    /** "a key from 0 to 499", as add() and as remove() */
    private static void everyKey() {
        for (int key = 0; key < 500; key++) {
            BackgroundRebuild x = typed("+" + key);
            Checks.due("+" + key, x.firstError() + " " + x.execute() + " " + x.keyAt(0), ("+" + key).length() + " 1 " + key);
            type(x, "-" + key);
            Checks.due("-" + key, x.firstError() + " " + x.execute() + " " + x.keyAt(0), ("-" + key).length() + " 1 -1");
        }
    }

    /** "a key from 0 to 499": 500 and what is greater */
    private static void keysOutOfRange() {
        for (int key = 500; key < 1000; key++) {
            Checks.due("+" + key, typed("+" + key).firstError(), 3);
        }
        Checks.due("a fourth digit", typed("-1000").firstError(), 4);
        Checks.due("a fourth digit", typed("-4990").firstError(), 4);
        Checks.due("2 to the power of 32", typed("+4294967296").firstError(), 4);
    }

    /** "without leading zeros" */
    private static void leadingZeros() {
        for (char digit = '0'; digit <= '9'; digit++) {
            Checks.due("+0" + digit, typed("+0" + digit).firstError(), 2);
            Checks.due("-0" + digit, typed("-0" + digit).firstError(), 2);
        }
        Checks.due("zeros behind other digits", typed("+100;-200;+10").firstError(), 13);
    }

    /** "the index of the first character that no act text can have after the characters before it" */
    private static void placesOfTheFirstError() {
        Checks.due("the first character", typed("x").firstError(), 0);
        Checks.due("the first of several", typed(".;xyz").firstError(), 2);
        Checks.due("good ones behind it do not count", typed("5;.;.").firstError(), 0);
        Checks.due("the last character", typed(SIXTY.substring(0, 59) + "x").firstError(), 59);
        Checks.due("the one before it", typed(SIXTY.substring(0, 58) + "x.").firstError(), 58);
        Checks.due("an act is due", typed(";").firstError() + " " + typed(".;;").firstError(), "0 2");
    }

    /** "the length of the buffer if there is no error (also if the text is not complete)" */
    private static void textsThatAreNotComplete() {
        for (int length = 0; length <= 60; length++) {
            Checks.due("no error in " + length, typed(SIXTY.substring(0, length)).firstError(), length);
        }
        Checks.due("nothing is saved or cleared", typed(".;").firstError() + " " + typed(".;").count(7), "2 0");
    }

    /** An act text has no length of its own: what stands at the end of a full buffer may go on. */
    private static void sixtyCharactersThatMayGoOn() {
        for (String end : new String[] {"+200;", "+20;+", ".;.;-"}) {
            BackgroundRebuild x = typed(SIXTY.substring(0, 55) + end);
            Checks.due("no error in " + end, x.firstError(), 60);
            Checks.throwsJust("not complete: " + end, ILLEGAL, () -> x.execute());
        }
    }

    // ---- execute()

    /** "one or more acts": one */
    private static void oneAct() {
        Checks.due("idle()", typed(".").execute(), 1);
        Checks.due("add()", typed("+0").execute(), 1);
        Checks.due("remove()", typed("-0").execute(), 1);
    }

    /** The most acts that 60 characters hold. */
    private static void mostActs() {
        BackgroundRebuild x = typed(".;".repeat(29) + ".");
        Checks.due("thirty acts", x.execute() + " " + x.count(3), "30 30");
        BackgroundRebuild y = typed("+1;+2;+3;+4;+5;+6;+7;+8;+9;+0;-0;-9;-8;-7;-6;-5;-4;-3;-2;-1");
        Checks.due("twenty acts", y.execute() + " " + y.count(3) + " " + y.tree(false, 1), "20 20 0");
        BackgroundRebuild z = typed(SIXTY);
        Checks.due("thirteen acts", z.execute() + " " + z.count(3) + " " + z.keyAt(0) + " " + z.keyAt(1), "13 13 20 199");
    }

    /** "from 0 to 499" in acts with several keys */
    private static void leastAndGreatestKeyOfAText() {
        BackgroundRebuild x = quiet();
        type(x, "+0;+499;-499;+250;-0");
        Checks.due("five acts", x.execute(), 5);
        Checks.due("their nodes", keysOf(x, false), "0* 499* 250");
    }

    /** "up to the first one whose method would throw an exception" */
    private static void upToTheActThatThrows() {
        BackgroundRebuild x = low(119);
        int acts = x.count(3);
        type(x, "+119;+120;+121;.");
        Checks.due("the last one that has room", x.execute() + " " + (x.count(3) - acts), "1 1");
        Checks.due("120 nodes", x.tree(false, 0) + " " + x.contains(119) + " " + x.contains(120), "120 true false");
        type(x, "-0;-200;+5;-5;+5;.;+0;-499;+499;-7");
        Checks.due("only new keys throw", x.execute() + " " + (x.count(3) - acts), "8 9");
        Checks.due("not the acts behind it", x.contains(7) + " " + x.count(8), "true 0");
    }

    /** "up to the first one whose method would throw": none is executed, but the call throws no exception. */
    private static void noActIsExecuted() {
        BackgroundRebuild x = full();
        x.remove(3);
        x.clearBuffer();
        type(x, "+120;-4");
        Checks.due("none", x.execute(), 0);
        Checks.due("cleared", x.count(8), 0);
        Checks.due("-3 was saved before it", x.undo() + " " + x.contains(3), "5 false");
        Checks.due("and is undone next", x.undo() + " " + x.contains(3), "4 true");
    }

    /** "Executes the acts in the buffer, one after the other": an exchange makes room for those behind it. */
    private static void roomInTheMidstOfAText() {
        BackgroundRebuild x = full();
        x.remove(0);
        x.begin();
        x.set(2, 8);
        idle(x, 14);
        Checks.due("seven copies are left", x.rebuild(2), 112);
        type(x, ".;+300;+301");
        Checks.due("room for one", x.execute() + " " + x.tree(false, 0) + " " + x.contains(300), "2 120 true");
    }

    /** Parts 2 to 4 and the work of an act hold for each act of a text. */
    private static void actsOfATextAreActs() {
        BackgroundRebuild x = new BackgroundRebuild();
        type(x, "+5;+6;+7;-5;-6;+8");
        Checks.due("six acts", x.execute(), 6);
        // -6 marks 2 of 3 nodes; +8 visits 5, 6 and 7, copies 7 and is replayed below it.
        Checks.due("counts", countsOf(x), "5 5 11 6 1 1 0 1 0");
        Checks.due("exchanged", keysOf(x, false), "7 8");
    }

    /** "and clears the buffer. Undoable, as one call." */
    private static void executeClearsAndSaves() {
        BackgroundRebuild x = typed(".;+1;.");
        x.execute();
        Checks.due("cleared, one state saved", x.count(8) + " " + x.count(7), "0 1");
        type(x, "+2;-1");
        x.execute();
        type(x, "+3");
        Checks.due("undone at once", x.undo() + " " + keysOf(x, false) + " " + x.count(3), "1 1 3");
        Checks.due("the buffer is not restored", x.count(8) + " " + x.execute() + " " + x.contains(3), "2 1 true");
    }

    /** "Throws IllegalArgumentException if the buffer is not a complete act text" */
    private static void textsThatAreRefused() {
        for (String text : new String[] {"", "+", "-", ";", ".;", "+5;", "+5;-", "..", "+05", "-500", "+5;+5;x", "+5;.;;", "5", "+-5", "+5+6", "+5.", "~"}) {
            String before = Whole.all(() -> typed(text));
            Checks.due("refused: " + text, Whole.all(Whole.after(() -> typed(text),
                    x -> Checks.throwsJust("text " + text, ILLEGAL, () -> x.execute()))), before);
        }
    }
}
