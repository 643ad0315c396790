/** For each promise of the document: ordinary inputs, the edges that it names, and wrong inputs. */
public final class PromiseTest {
    private static final String INDEX = "IndexOutOfBoundsException";
    private static final String ARGUMENT = "IllegalArgumentException";
    private static final String STATE = "IllegalStateException";
    private static final int NONE = LiftDrill.NONE;

    private static String promise = "";
    private static int checks = 0;
    private static int wrong = 0;

    private interface Call {
        long answer();
    }

    private static void report(String what, Object got, Object want) {
        checks++;
        if (!got.equals(want)) {
            wrong++;
            System.out.println(promise + ": " + what + ": " + got + ", due is " + want);
        }
    }

    private static void due(String what, long got, long want) {
        report(what, got, want);
    }

    /** The call throws just this exception, and changes nothing. */
    private static void refused(LiftDrill x, String what, String exception, Call call) {
        long before = x.digest();
        String got = "nothing";
        try {
            call.answer();
        } catch (RuntimeException e) {
            got = e.getClass().getSimpleName();
        }
        report(what + " throws", got, exception);
        report(what + " changes nothing", x.digest(), before);
    }

    private static void team(LiftDrill x, int team, int... facts) {
        for (int what = 0; what < facts.length; what++) {
            due("team(" + team + ", " + what + ")", x.team(team, what), facts[what]);
        }
    }

    private static void chair(LiftDrill x, int chair, int... facts) {
        for (int what = 0; what < facts.length; what++) {
            due("chair(" + chair + ", " + what + ")", x.chair(chair, what), facts[what]);
        }
    }

    private static void values(LiftDrill x, int... facts) {
        for (int what = 0; what < facts.length; what++) {
            due("value(" + what + ")", x.value(what), facts[what]);
        }
    }

    /** The call saves one state, the one from before it; then so many of them remain behind undo(). */
    private static void undoable(LiftDrill x, String what, int remain, Call call) {
        long before = factsOf(x);
        call.answer();
        due("undo() of " + what, x.undo(), remain);
        report(what + " is undone", factsOf(x), before);
    }

    /** A hash of all that can be asked, but for the saved states and the text. */
    private static long factsOf(LiftDrill x) {
        return hash(x, 0, 0);
    }

    /** The digest of the document, told by the public calls alone. */
    private static long hash(LiftDrill x, int textLength, int saved) {
        long h = 31L * 3517L + textLength;
        for (int what = 0; what <= 11; what++) {
            h = 31 * h + x.value(what);
        }
        for (int span = 0; span + 1 < x.value(0); span++) {
            h = 31 * h + x.way(span, span + 1);
        }
        for (int i = 0; i < x.value(1); i++) {
            for (int what = 0; what <= 8; what++) {
                h = 31 * h + x.chair(i, what);
            }
            h = 31 * h + x.minuteOf(i);
        }
        for (int i = 0; i < x.value(2); i++) {
            for (int what = 0; what <= 7; what++) {
                h = 31 * h + x.team(i, what);
            }
        }
        for (int i = 0; x.journal(i) != NONE; i++) {
            h = 31 * h + x.journal(i);
        }
        h = 31 * h + x.minutesToAll();
        return 31 * h + saved;
    }

    private static void write(LiftDrill x, String text) {
        x.clearText();
        for (int i = 0; i < text.length(); i++) {
            x.append(text.charAt(i));
        }
    }

    private static int parsed(LiftDrill x, String text) {
        write(x, text);
        return x.parse();
    }

    /** One chair with 3 riders, cold 5, over span 1; one team with tiredness 9 at span 0. It is emptied at 13. */
    private static LiftDrill oneAndOne() {
        LiftDrill x = new LiftDrill();
        x.addChair(1, 3, 5, false);
        x.addTeam(0, 9);
        return x;
    }

    private static void newObject() {
        LiftDrill x = new LiftDrill();
        values(x, 3, 0, 0, 0, 0, 0, 0, 0, 0, 0, 0, NONE);
        due("way(0, 1)", x.way(0, 1), 4);
        due("way(1, 2)", x.way(1, 2), 4);
        due("journal(0)", x.journal(0), NONE);
        due("minutesToAll()", x.minutesToAll(), 0);
        due("digest()", x.digest(), hash(x, 0, 0));
        due("clearText()", x.clearText(), 0);
        refused(x, "undo()", STATE, () -> x.undo());
        LiftDrill other = new LiftDrill();
        other.addChair(0, 1, 0, false);
        due("chairs of the first one", x.value(1), 0);
    }

    private static void addChair() {
        LiftDrill x = new LiftDrill();
        due("the first one", x.addChair(0, 1, 0, false), 0);
        due("the second one", x.addChair(2, 4, 20, true), 1);
        chair(x, 0, 0, 1, 0, 0, 0, 0, NONE, NONE, NONE);
        chair(x, 1, 2, 4, 20, 1, 23, 0, NONE, NONE, NONE);
        undoable(x, "addChair", 2, () -> x.addChair(1, 2, 3, true));
        due("chairs", x.value(1), 2);
        refused(x, "span -1", INDEX, () -> x.addChair(-1, 1, 0, false));
        refused(x, "span 3", INDEX, () -> x.addChair(3, 1, 0, false));
        refused(x, "span least", INDEX, () -> x.addChair(Integer.MIN_VALUE, 1, 0, false));
        refused(x, "span greatest", INDEX, () -> x.addChair(Integer.MAX_VALUE, 1, 0, false));
        refused(x, "riders 0", ARGUMENT, () -> x.addChair(0, 0, 0, false));
        refused(x, "riders 5", ARGUMENT, () -> x.addChair(0, 5, 0, false));
        refused(x, "cold -1", ARGUMENT, () -> x.addChair(0, 1, -1, false));
        refused(x, "cold 21", ARGUMENT, () -> x.addChair(0, 1, 21, false));
        refused(x, "span 3, riders 0", INDEX, () -> x.addChair(3, 0, 0, false));
        for (int i = 2; i < 14; i++) {
            due("the next one", x.addChair(1, 1, 0, false), i);
        }
        refused(x, "a 15th", STATE, () -> x.addChair(0, 1, 0, false));
        refused(x, "a 15th with riders 5", ARGUMENT, () -> x.addChair(0, 5, 0, false));
        refused(x, "a 15th over span 3", INDEX, () -> x.addChair(3, 5, 0, false));
        parsed(x, "|||");
        due("over span 3 of 4", x.addChair(3, 1, 0, false), 0);
        chair(x, 0, 3, 1, 0, 0, 0, 0, NONE, NONE, NONE);
    }

    private static void addTeam() {
        LiftDrill x = new LiftDrill();
        due("the first one", x.addTeam(0, 0), 0);
        due("the second one", x.addTeam(2, 30), 1);
        team(x, 0, 0, 0, 0, 0, NONE, 0, 0, 0);
        team(x, 1, 2, 30, 0, 0, NONE, 0, 0, 0);
        undoable(x, "addTeam", 2, () -> x.addTeam(1, 7));
        due("teams", x.value(2), 2);
        refused(x, "span -1", INDEX, () -> x.addTeam(-1, 0));
        refused(x, "span 3", INDEX, () -> x.addTeam(3, 0));
        refused(x, "tiredness -1", ARGUMENT, () -> x.addTeam(0, -1));
        refused(x, "tiredness 31", ARGUMENT, () -> x.addTeam(0, 31));
        refused(x, "span 3, tiredness 31", INDEX, () -> x.addTeam(3, 31));
        x.addTeam(1, 1);
        due("the fourth one", x.addTeam(1, 2), 3);
        refused(x, "a 5th", STATE, () -> x.addTeam(0, 0));
        refused(x, "a 5th with tiredness 31", ARGUMENT, () -> x.addTeam(0, 31));
        refused(x, "a 5th at span 3", INDEX, () -> x.addTeam(3, 0));
    }

    private static void addedBehindUsedOnes() {
        // A chair and a team in a place that an undone one had must not inherit what that one had done.
        LiftDrill x = oneAndOne();
        x.tell();
        x.pass(13);
        x.undo();
        x.undo();
        x.undo();
        x.undo();
        x.addChair(2, 1, 1, true);
        chair(x, 0, 2, 1, 1, 1, 4, 0, NONE, NONE, NONE);
        LiftDrill y = new LiftDrill();
        y.addTeam(0, 9);
        y.addChair(1, 3, 5, false);
        parsed(y, "|1");
        y.addTeam(0, 3);
        y.pass(20);
        parsed(y, "|2+7");
        y.addTeam(1, 2);
        team(y, 0, 1, 2, 0, 0, NONE, 0, 0, 0);
        chair(y, 0, 1, 2, 7, 0, 7, 0, NONE, NONE, NONE);
    }

    private static void setWay() {
        LiftDrill x = new LiftDrill();
        due("setWay(0, 1)", x.setWay(0, 1), 4);
        due("setWay(0, 20)", x.setWay(0, 20), 1);
        due("setWay(1, 7)", x.setWay(1, 7), 4);
        due("setWay(1, 7) again", x.setWay(1, 7), 7);
        due("way(0, 1)", x.way(0, 1), 20);
        due("way(0, 2)", x.way(0, 2), 27);
        undoable(x, "setWay", 3, () -> x.setWay(1, 9));
        refused(x, "the last span", INDEX, () -> x.setWay(2, 1));
        refused(x, "span 3", INDEX, () -> x.setWay(3, 1));
        refused(x, "span -1", INDEX, () -> x.setWay(-1, 1));
        refused(x, "minutes 0", ARGUMENT, () -> x.setWay(0, 0));
        refused(x, "minutes 21", ARGUMENT, () -> x.setWay(0, 21));
        refused(x, "the last span, minutes 0", INDEX, () -> x.setWay(2, 0));
        parsed(x, "||||||");
        due("setWay(5, 2)", x.setWay(5, 2), 4);
        refused(x, "the last span of 7", INDEX, () -> x.setWay(6, 1));
        LiftDrill y = oneAndOne();
        y.pass(1);
        y.setWay(0, 20);
        team(y, 0, 0, 9, 1, 4, 0, 0, 0, 0);
        due("minuteOf(0) of one that is walked to", y.minuteOf(0), 13);
    }

    private static void setCold() {
        LiftDrill x = oneAndOne();
        due("of one that waits", x.setCold(0, 20), 5);
        due("rank", x.chair(0, 4), 20);
        due("again", x.setCold(0, 0), 20);
        due("cold", x.chair(0, 2), 0);
        undoable(x, "setCold", 3, () -> x.setCold(0, 3));
        x.pass(1);
        due("of one that is taken", x.setCold(0, 9), 0);
        refused(x, "chair -1", INDEX, () -> x.setCold(-1, 0));
        refused(x, "chair 1", INDEX, () -> x.setCold(1, 0));
        refused(x, "cold -1", ARGUMENT, () -> x.setCold(0, -1));
        refused(x, "cold 21", ARGUMENT, () -> x.setCold(0, 21));
        refused(x, "chair 1, cold 21", INDEX, () -> x.setCold(1, 21));
        x.pass(20);
        due("it is empty", x.chair(0, 5), 2);
        refused(x, "an empty one", STATE, () -> x.setCold(0, 0));
        refused(x, "an empty one, cold 21", ARGUMENT, () -> x.setCold(0, 21));
    }

    private static void callOff() {
        LiftDrill x = oneAndOne();
        due("an idle one", x.callOff(0), NONE);
        undoable(x, "callOff of an idle one", 3, () -> x.callOff(0));
        x.pass(3);
        team(x, 0, 0, 9, 1, 2, 0, 0, 0, 2);
        undoable(x, "callOff of one that walks", 3, () -> x.callOff(0));
        due("one that walks", x.callOff(0), 0);
        team(x, 0, 0, 9, 0, 0, NONE, 0, 0, 2);
        chair(x, 0, 1, 3, 5, 0, 5, 0, NONE, NONE, NONE);
        x.pass(6);
        team(x, 0, 1, 9, 2, 7, 0, 0, 0, 6);
        due("one that brings down", x.callOff(0), 0);
        team(x, 0, 1, 9, 0, 0, NONE, 0, 0, 6);
        due("the chair waits", x.chair(0, 5), 0);
        due("the chair has no team", x.chair(0, 6), NONE);
        x.pass(1);
        team(x, 0, 1, 9, 2, 8, 0, 0, 0, 6);
        x.pass(8);
        team(x, 0, 1, 12, 3, 5, NONE, 1, 3, 6);
        due("one that rests", x.callOff(0), NONE);
        team(x, 0, 1, 12, 0, 0, NONE, 1, 3, 6);
        refused(x, "team -1", INDEX, () -> x.callOff(-1));
        refused(x, "team 1", INDEX, () -> x.callOff(1));
    }

    private static void passOneTeam() {
        LiftDrill x = oneAndOne();
        due("pass(1)", x.pass(1), 0);
        team(x, 0, 0, 9, 1, 4, 0, 0, 0, 0);
        chair(x, 0, 1, 3, 5, 0, 5, 1, 0, NONE, NONE);
        x.pass(3);
        team(x, 0, 0, 9, 1, 1, 0, 0, 0, 3);
        x.pass(1);
        team(x, 0, 1, 9, 2, 8, 0, 0, 0, 4);
        due("pass(7)", x.pass(7), 0);
        team(x, 0, 1, 9, 2, 1, 0, 0, 0, 4);
        due("pass(1) with the end of the work", x.pass(1), 1);
        team(x, 0, 1, 12, 3, 5, NONE, 1, 3, 4);
        chair(x, 0, 1, 3, 6, 0, 6, 2, 0, 13, NONE);
        x.pass(4);
        team(x, 0, 1, 12, 3, 1, NONE, 1, 3, 4);
        x.pass(1);
        team(x, 0, 1, 6, 0, 0, NONE, 1, 3, 4);
        due("the minute", x.value(3), 18);
        undoable(x, "pass", 3, () -> x.pass(7));
        due("pass(100) without chairs that wait", x.pass(100), 0);
        due("the cold of an empty one", x.chair(0, 2), 6);
        x.addChair(1, 1, 0, false);
        x.addChair(1, 1, 0, false);
        due("pass(100) with two", x.pass(100), 2);
    }

    private static void passLimits() {
        LiftDrill x = new LiftDrill();
        refused(x, "pass(0)", ARGUMENT, () -> x.pass(0));
        refused(x, "pass(-1)", ARGUMENT, () -> x.pass(-1));
        refused(x, "pass(501)", ARGUMENT, () -> x.pass(501));
        refused(x, "pass of the greatest", ARGUMENT, () -> x.pass(Integer.MAX_VALUE));
        for (int i = 0; i < 9; i++) {
            x.pass(500);
        }
        x.pass(499);
        refused(x, "pass(2) at 4999", STATE, () -> x.pass(2));
        due("pass(1) at 4999", x.pass(1), 0);
        due("the minute", x.value(3), 5000);
        refused(x, "pass(1) at 5000", STATE, () -> x.pass(1));
        refused(x, "pass(0) at 5000", ARGUMENT, () -> x.pass(0));
        refused(x, "pass(501) at 5000", ARGUMENT, () -> x.pass(501));
    }

    private static void passCold() {
        LiftDrill x = new LiftDrill();
        x.addChair(0, 1, 0, false);
        x.addChair(0, 1, 19, true);
        x.addChair(0, 1, 20, false);
        x.pass(9);
        due("cold at 9", x.chair(0, 2), 0);
        x.pass(1);
        due("cold at 10", x.chair(0, 2), 1);
        due("cold 19 at 10", x.chair(1, 2), 20);
        due("cold 20 at 10", x.chair(2, 2), 20);
        x.pass(10);
        due("cold at 20", x.chair(0, 2), 2);
        due("cold 19 at 20", x.chair(1, 2), 20);
        due("rank", x.chair(1, 4), 23);
        // Cold rises ahead of the teams: a chair emptied in the tenth minute has become colder in it.
        LiftDrill y = new LiftDrill();
        y.addChair(0, 1, 0, false);
        y.pass(6);
        y.addTeam(0, 0);
        due("emptied in the tenth minute", y.pass(4), 1);
        chair(y, 0, 0, 1, 1, 0, 1, 2, 0, 10, NONE);
        // And ahead of the choice: ranks 20 and 20 become 20 and 21 in the tenth minute.
        LiftDrill z = new LiftDrill();
        z.addChair(0, 1, 20, false);
        z.addChair(2, 1, 17, true);
        z.pass(9);
        z.addTeam(0, 0);
        z.pass(1);
        due("the chair taken in the tenth minute", z.team(0, 4), 1);
    }

    private static void passChoice() {
        LiftDrill x = new LiftDrill();
        x.addChair(2, 1, 3, false);
        x.addChair(1, 1, 3, false);
        x.addChair(1, 1, 0, true);
        x.addChair(0, 1, 2, false);
        x.addTeam(0, 0);
        x.addTeam(2, 0);
        x.addTeam(2, 0);
        x.addTeam(2, 0);
        x.pass(1);
        due("rank ahead of way, way ahead of number, the lowest", x.team(0, 4), 1);
        due("the shortest way", x.team(1, 4), 0);
        due("a child counts 3", x.team(2, 4), 2);
        due("what is left", x.team(3, 4), 3);
        team(x, 3, 2, 0, 1, 8, 3, 0, 0, 0);
        due("waiting", x.value(4), 0);
        // One that is done takes the next chair in the same minute; one that rested, too.
        LiftDrill y = new LiftDrill();
        y.addChair(0, 1, 9, false);
        y.addChair(0, 4, 5, false);
        y.addChair(1, 1, 0, false);
        y.addTeam(0, 5);
        y.pass(1);
        team(y, 0, 0, 5, 2, 4, 0, 0, 0, 0);
        y.pass(4);
        team(y, 0, 0, 6, 2, 10, 1, 1, 1, 0);
        y.pass(10);
        team(y, 0, 0, 10, 3, 5, NONE, 2, 5, 0);
        y.pass(5);
        team(y, 0, 0, 4, 1, 4, 2, 2, 5, 0);
        y.pass(4);
        team(y, 0, 1, 4, 2, 3, 2, 2, 5, 4);
        due("the minutes of the first two", y.chair(0, 7) * 100 + y.chair(1, 7), 515);
        // Idle ones stay idle when no chair waits.
        y.pass(50);
        team(y, 0, 1, 5, 0, 0, NONE, 3, 6, 4);
    }

    private static void passTiredness() {
        LiftDrill x = new LiftDrill();
        x.addChair(0, 4, 9, false);
        x.addChair(0, 3, 0, false);
        x.addTeam(0, 28);
        x.pass(1);
        team(x, 0, 0, 28, 2, 26, 0);
        x.pass(26);
        team(x, 0, 0, 30, 3, 5, NONE, 1, 4, 0);
        x.pass(5);
        team(x, 0, 0, 24, 2, 17, 1, 1, 4, 0);
        LiftDrill y = new LiftDrill();
        y.addChair(0, 1, 0, false);
        y.addChair(0, 1, 0, false);
        y.addTeam(0, 8);
        y.pass(5);
        team(y, 0, 0, 9, 2, 4, 1, 1, 1, 0);
        y.pass(4);
        team(y, 0, 0, 10, 3, 5, NONE, 2, 2, 0);
    }

    private static void passHelp() {
        // Team 0 ends over span 1 in the minute in which team 1 arrives there: it has gone on already.
        LiftDrill x = new LiftDrill();
        x.addChair(1, 2, 5, false);
        x.addChair(1, 1, 0, false);
        x.addTeam(1, 0);
        x.addTeam(0, 0);
        x.pass(5);
        team(x, 0, 1, 2, 0, 0, NONE, 1, 2, 0);
        team(x, 1, 1, 0, 2, 3, 1, 0, 0, 4);
        // Team 1 ends there in the minute in which team 0 arrives: it has not gone on yet.
        LiftDrill y = new LiftDrill();
        y.addChair(1, 1, 5, false);
        y.addChair(1, 2, 0, false);
        y.addTeam(0, 0);
        y.addTeam(1, 0);
        y.pass(5);
        team(y, 0, 1, 0, 2, 2, 0, 0, 0, 4);
        team(y, 1, 1, 2, 0, 0, NONE, 1, 2, 0);
        // Two that begin in one minute: the second is helped; one over another span is not; help is 1, not 1 each.
        LiftDrill z = new LiftDrill();
        for (int i = 0; i < 3; i++) {
            z.addChair(2, 4, 9, false);
            z.addTeam(2, 10);
        }
        z.addChair(0, 4, 0, false);
        z.addTeam(0, 10);
        z.pass(1);
        due("begins first", z.team(0, 3), 14);
        due("is helped", z.team(1, 3), 13);
        due("is helped by two", z.team(2, 3), 13);
        due("over another span", z.team(3, 3), 14);
    }

    private static void promisesTold() {
        LiftDrill x = new LiftDrill();
        due("without chairs", x.tell(), 0);
        x.addChair(1, 3, 5, false);
        due("without teams", x.tell(), 0);
        due("nothing noted", x.chair(0, 8), NONE);
        x.addTeam(0, 9);
        due("tell()", x.tell(), 1);
        due("noted", x.chair(0, 8), 13);
        undoable(x, "tell", 3, () -> x.tell());
        x.addChair(1, 1, 0, false);
        due("not noted for one that came later", x.chair(1, 8), NONE);
        x.pass(13);
        values(x, 3, 2, 1, 13, 1, 0, 1, 1, 3, 1, 0, 1);
        due("tell() again", x.tell(), 1);
        due("the note of an empty one stays", x.chair(0, 8), 13);
        due("noted for the other", x.chair(1, 8), 22);
        due("the other's minute", x.minuteOf(1), 22);
        x.callOff(0);
        x.pass(50);
        values(x, 3, 2, 1, 63, 0, 0, 2, 0, 4, 2, 0, NONE);
    }

    private static void promisesBroken() {
        LiftDrill x = oneAndOne();
        x.tell();
        x.setWay(0, 5);
        x.pass(13);
        due("not broken yet", x.value(10), 0);
        x.pass(1);
        due("broken", x.value(10), 1);
        due("kept", x.value(9), 0);
        due("the note stays", x.chair(0, 8), 13);
        due("its minute", x.chair(0, 7), 14);
        // The latest telling counts.
        LiftDrill y = oneAndOne();
        y.tell();
        y.setWay(0, 20);
        due("told anew", y.tell(), 1);
        due("noted anew", y.chair(0, 8), 29);
        y.pass(29);
        due("kept what was told anew", y.value(9), 1);
        due("broken none", y.value(10), 0);
        // Earlier than told is kept.
        LiftDrill z = oneAndOne();
        z.tell();
        z.setWay(0, 1);
        z.pass(10);
        due("kept as it is earlier", z.value(9), 1);
        // Without a note it is neither.
        LiftDrill w = oneAndOne();
        w.pass(13);
        due("kept without a note", w.value(9), 0);
        due("broken without a note", w.value(10), 0);
        due("tell() of an empty one", w.tell(), 0);
        due("no note for an empty one", w.chair(0, 8), NONE);
    }

    private static void chairFacts() {
        LiftDrill x = oneAndOne();
        x.addChair(2, 4, 17, true);
        chair(x, 1, 2, 4, 17, 1, 20, 0, NONE, NONE, NONE);
        x.tell();
        x.pass(1);
        chair(x, 1, 2, 4, 17, 1, 20, 1, 0, NONE, 19);
        x.pass(18);
        chair(x, 1, 2, 4, 18, 1, 21, 2, 0, 19, 19);
        refused(x, "chair -1", INDEX, () -> x.chair(-1, 0));
        refused(x, "chair 2", INDEX, () -> x.chair(2, 0));
        refused(x, "chair 14", INDEX, () -> x.chair(14, 0));
        refused(x, "what -1", ARGUMENT, () -> x.chair(0, -1));
        refused(x, "what 9", ARGUMENT, () -> x.chair(0, 9));
        refused(x, "chair 2, what 9", INDEX, () -> x.chair(2, 9));
    }

    private static void teamFacts() {
        LiftDrill x = oneAndOne();
        x.addTeam(1, 4);
        x.pass(1);
        team(x, 0, 0, 9, 1, 4, 0, 0, 0, 0);
        team(x, 1, 1, 4, 0, 0, NONE, 0, 0, 0);
        x.pass(17);
        team(x, 0, 1, 6, 0, 0, NONE, 1, 3, 4);
        refused(x, "team -1", INDEX, () -> x.team(-1, 0));
        refused(x, "team 2", INDEX, () -> x.team(2, 0));
        refused(x, "team 4", INDEX, () -> x.team(4, 0));
        refused(x, "what -1", ARGUMENT, () -> x.team(0, -1));
        refused(x, "what 8", ARGUMENT, () -> x.team(0, 8));
        refused(x, "team 2, what 8", INDEX, () -> x.team(2, 8));
    }

    private static void valueFacts() {
        LiftDrill x = oneAndOne();
        x.addChair(0, 2, 4, true);
        x.addChair(0, 1, 4, false);
        x.tell();
        values(x, 3, 3, 1, 0, 3, 0, 0, 6, 0, 0, 0, 7);
        x.pass(1);
        values(x, 3, 3, 1, 1, 2, 1, 0, 6, 0, 0, 0, 5);
        x.pass(6);
        values(x, 3, 3, 1, 7, 2, 0, 1, 4, 2, 1, 0, 5);
        x.pass(493);
        values(x, 3, 3, 1, 500, 0, 0, 3, 0, 6, 3, 0, NONE);
        refused(x, "value(-1)", ARGUMENT, () -> x.value(-1));
        refused(x, "value(12)", ARGUMENT, () -> x.value(12));
    }

    private static void wayBetween() {
        LiftDrill x = new LiftDrill();
        parsed(x, "||||||");
        for (int span = 0; span < 6; span++) {
            x.setWay(span, span + 2);
        }
        due("way(0, 6)", x.way(0, 6), 27);
        due("way(6, 0)", x.way(6, 0), 27);
        due("way(2, 4)", x.way(2, 4), 9);
        due("way(4, 3)", x.way(4, 3), 5);
        due("way(3, 3)", x.way(3, 3), 0);
        due("way(6, 6)", x.way(6, 6), 0);
        refused(x, "way(-1, 0)", INDEX, () -> x.way(-1, 0));
        refused(x, "way(0, -1)", INDEX, () -> x.way(0, -1));
        refused(x, "way(7, 0)", INDEX, () -> x.way(7, 0));
        refused(x, "way(0, 7)", INDEX, () -> x.way(0, 7));
    }

    private static void work() {
        LiftDrill x = new LiftDrill();
        x.addChair(1, 1, 9, false);
        x.addChair(1, 4, 8, false);
        x.addChair(2, 4, 0, false);
        x.addTeam(1, 0);
        x.addTeam(0, 4);
        x.addTeam(0, 5);
        x.addTeam(0, 30);
        due("1 rider, tiredness 0", x.work(0, 0), 3);
        due("4 riders, tiredness 0", x.work(1, 0), 6);
        due("4 riders, tiredness 4", x.work(1, 1), 6);
        due("4 riders, tiredness 5", x.work(1, 2), 10);
        due("4 riders, tiredness 30", x.work(1, 3), 30);
        x.pass(1);
        due("team 0 brings down", x.team(0, 2), 2);
        due("helped by team 0", x.work(1, 3), 29);
        due("no team helps itself", x.work(1, 0), 6);
        due("over another span", x.work(2, 3), 30);
        due("of one that is taken", x.work(0, 1), 2);
        due("a team that walks helps none", x.work(0, 0), 3);
        x.pass(3);
        due("of an empty one", x.work(0, 0), 3);
        refused(x, "work(-1, 0)", INDEX, () -> x.work(-1, 0));
        refused(x, "work(3, 0)", INDEX, () -> x.work(3, 0));
        refused(x, "work(0, -1)", INDEX, () -> x.work(0, -1));
        refused(x, "work(0, 4)", INDEX, () -> x.work(0, 4));
    }

    private static void journal() {
        LiftDrill x = new LiftDrill();
        x.addChair(2, 1, 0, false);
        x.addChair(1, 2, 0, false);
        x.addChair(0, 2, 0, false);
        due("journal(0) of none", x.journal(0), NONE);
        x.addTeam(0, 0);
        x.addTeam(1, 0);
        x.pass(100);
        // Chairs 2 and 1 are emptied in one minute, that of team 0 first.
        due("minutes of 2 and 1", x.chair(2, 7) * 10 + x.chair(1, 7), 55);
        due("journal(0)", x.journal(0), 2);
        due("journal(1)", x.journal(1), 1);
        due("journal(2)", x.journal(2), 0);
        due("journal(3)", x.journal(3), NONE);
        due("journal(14)", x.journal(14), NONE);
        due("journal(greatest)", x.journal(Integer.MAX_VALUE), NONE);
        refused(x, "journal(-1)", INDEX, () -> x.journal(-1));
        refused(x, "journal(least)", INDEX, () -> x.journal(Integer.MIN_VALUE));
    }

    private static void journalOfAll() {
        LiftDrill x = new LiftDrill();
        for (int i = 0; i < 14; i++) {
            x.addChair(0, 1, i, false);
        }
        x.addTeam(0, 0);
        due("pass(500)", x.pass(500), 14);
        for (int i = 0; i < 14; i++) {
            due("journal(" + i + ")", x.journal(i), 13 - i);
        }
        due("journal(14)", x.journal(14), NONE);
    }

    private static void minuteOf() {
        LiftDrill x = new LiftDrill();
        x.addChair(1, 3, 5, false);
        due("without teams", x.minuteOf(0), NONE);
        x.addTeam(0, 9);
        long before = x.digest();
        due("minuteOf(0)", x.minuteOf(0), 13);
        due("it changes nothing", x.digest(), before);
        x.addChair(0, 1, 0, false);
        due("minuteOf(1)", x.minuteOf(1), 26);
        x.pass(3);
        due("minuteOf(0) on the way", x.minuteOf(0), 13);
        x.pass(20);
        due("of an empty one", x.minuteOf(0), 13);
        due("minuteOf(1) still", x.minuteOf(1), 26);
        refused(x, "minuteOf(-1)", INDEX, () -> x.minuteOf(-1));
        refused(x, "minuteOf(2)", INDEX, () -> x.minuteOf(2));
        // What would be knows no last minute.
        for (int i = 0; i < 9; i++) {
            x.pass(500);
        }
        x.pass(475);
        x.addChair(1, 1, 0, false);
        due("behind minute 5000", x.minuteOf(2), x.value(3) + x.minutesToAll());
        due("behind minute 5000, too", x.minuteOf(2) > 5000 ? 1 : 0, 1);
    }

    private static void minutesToAll() {
        LiftDrill x = new LiftDrill();
        due("without chairs", x.minutesToAll(), 0);
        x.addChair(1, 3, 5, false);
        due("without teams", x.minutesToAll(), NONE);
        x.addTeam(0, 9);
        long before = x.digest();
        due("minutesToAll()", x.minutesToAll(), 13);
        due("it changes nothing", x.digest(), before);
        x.addChair(0, 1, 0, false);
        due("of two", x.minutesToAll(), 26);
        x.pass(20);
        due("20 minutes later", x.minutesToAll(), 6);
        x.pass(6);
        due("all are empty", x.minutesToAll(), 0);
        x.pass(6);
        due("all are empty still", x.minutesToAll(), 0);
    }

    private static void bestSpan() {
        LiftDrill x = new LiftDrill();
        due("without chairs", x.bestSpan(), 0);
        x.addChair(2, 1, 0, false);
        long before = x.digest();
        due("over the chair", x.bestSpan(), 2);
        due("it changes nothing", x.digest(), before);
        x.addChair(0, 1, 0, false);
        due("of several the lowest", x.bestSpan(), 0);
        x.addTeam(0, 0);
        due("opposite the team", x.bestSpan(), 2);
        x.addTeam(2, 30);
        due("the new one chooses last, so there is nothing left for it", x.bestSpan(), 0);
        x.addTeam(1, 0);
        x.addTeam(1, 0);
        due("with 4 teams", x.bestSpan(), NONE);
        LiftDrill y = new LiftDrill();
        parsed(y, "1|1c|||||4c+9");
        due("of 7 spans", y.bestSpan(), 6);
        // With tiredness 0 it takes 28, 32 and 25 minutes; any tiredness from 1 on does best at span 0.
        LiftDrill w = new LiftDrill();
        parsed(w, "1|4|4");
        due("with a tiredness of 0", w.bestSpan(), 2);
        LiftDrill z = new LiftDrill();
        z.addChair(0, 4, 9, false);
        z.addChair(2, 4, 0, false);
        z.addTeam(0, 0);
        z.setWay(1, 20);
        z.setWay(0, 1);
        due("far off", z.bestSpan(), 2);
    }

    private static void chosen() {
        LiftDrill x = new LiftDrill();
        due("without chairs", x.chosen(0), NONE);
        x.addChair(2, 1, 3, false);
        x.addChair(1, 1, 0, true);
        x.addChair(1, 1, 3, false);
        x.addChair(0, 1, 2, false);
        due("the shortest way, then the lowest", x.chosen(0), 1);
        due("over it", x.chosen(2), 0);
        x.setCold(3, 4);
        due("the greatest rank", x.chosen(2), 3);
        x.addTeam(2, 0);
        x.pass(1);
        due("a taken one is not chosen", x.chosen(0), 1);
        x.pass(100);
        due("empty ones are not chosen", x.chosen(0), NONE);
        refused(x, "chosen(-1)", INDEX, () -> x.chosen(-1));
        refused(x, "chosen(3)", INDEX, () -> x.chosen(3));
    }

    private static void meanCold() {
        LiftDrill x = new LiftDrill();
        report("without chairs", x.meanCold(), 0.0);
        x.addChair(0, 1, 20, false);
        report("of one", x.meanCold(), 20.0);
        x.addChair(1, 1, 1, true);
        report("of two", x.meanCold(), 10.5);
        x.addChair(1, 1, 1, true);
        report("of three", x.meanCold(), 22.0 / 3.0);
        x.addTeam(0, 0);
        x.pass(1);
        report("with one that is taken", x.meanCold(), 22.0 / 3.0);
        x.pass(3);
        report("without the empty one", x.meanCold(), 1.0);
        x.pass(100);
        report("all are empty", x.meanCold(), 0.0);
    }

    private static void append() {
        LiftDrill x = new LiftDrill();
        due("append(0)", x.append(0), 1);
        due("append(127)", x.append(127), 2);
        refused(x, "append(-1)", ARGUMENT, () -> x.append(-1));
        refused(x, "append(128)", ARGUMENT, () -> x.append(128));
        for (int i = 2; i < 100; i++) {
            due("append(49)", x.append('1'), i + 1);
        }
        refused(x, "append(49) to a full text", STATE, () -> x.append('1'));
        refused(x, "append(128) to a full text", ARGUMENT, () -> x.append(128));
        refused(x, "append is not undoable: undo()", STATE, () -> x.undo());
    }

    private static void clearText() {
        LiftDrill x = new LiftDrill();
        due("clearText()", x.clearText(), 0);
        x.append('1');
        x.append('|');
        due("clearText() of 2", x.clearText(), 2);
        due("clearText() again", x.clearText(), 0);
        due("append(50)", x.append('2'), 1);
        for (int i = 0; i < 99; i++) {
            x.append('|');
        }
        due("clearText() of 100", x.clearText(), 100);
        refused(x, "clearText is not undoable: undo()", STATE, () -> x.undo());
    }

    private static void parseGood() {
        LiftDrill x = oneAndOne();
        x.setWay(0, 9);
        x.tell();
        x.pass(30);
        due("parse()", parsed(x, "2+3|1c+9||4c3"), 4);
        values(x, 4, 4, 0, 0, 4, 0, 0, 10, 0, 0, 0, 12);
        chair(x, 0, 0, 2, 3, 0, 3, 0, NONE, NONE, NONE);
        chair(x, 1, 1, 1, 9, 1, 12, 0, NONE, NONE, NONE);
        chair(x, 2, 3, 4, 0, 1, 3, 0, NONE, NONE, NONE);
        chair(x, 3, 3, 3, 0, 0, 0, 0, NONE, NONE, NONE);
        due("the way", x.way(0, 3), 12);
        due("the journal", x.journal(0), NONE);
        due("parse() again", x.parse(), 4);
        due("undo()", x.undo(), 3);
        due("undo()", x.undo(), 2);
        values(x, 3, 1, 1, 30, 0, 0, 1, 0, 3, 1, 0, NONE);
        due("the text stays", x.clearText(), 13);
        due("two spans", parsed(x, "|"), 0);
        due("spans", x.value(0), 2);
        due("seven spans", parsed(x, "||||||"), 0);
        due("spans", x.value(0), 7);
        due("14 chairs", parsed(x, "1234123|4123412"), 14);
        due("riders", x.value(7), 1 + 2 + 3 + 4 + 1 + 2 + 3 + 4 + 1 + 2 + 3 + 4 + 1 + 2);
        due("digits behind cold", parsed(x, "1+01+91c+04+4|"), 4);
        due("the cold of the last", x.chair(3, 2), 4);
        undoable(x, "parse", 3, () -> x.parse());
    }

    private static void parseForgets() {
        LiftDrill x = oneAndOne();
        x.tell();
        x.setWay(0, 5);
        x.pass(30);
        x.addChair(1, 1, 0, false);
        x.tell();
        x.pass(30);
        values(x, 3, 2, 1, 60, 0, 0, 2, 0, 4, 1, 1, NONE);
        due("minutesToAll()", x.minutesToAll(), 0);
        due("parse()", parsed(x, "1|"), 1);
        values(x, 2, 1, 0, 0, 1, 0, 0, 1, 0, 0, 0, 0);
        due("the journal", x.journal(0), NONE);
        due("minutesToAll() without teams", x.minutesToAll(), NONE);
    }

    private static void parseWrong() {
        LiftDrill x = oneAndOne();
        String[] texts = {
            "", "1", "1c", "1+", "|1+", "1+2", "0|", "5|", "|5", "c|", "+1|", "|c", "|+1", "1cc|", "1+2c|", "1+2+3|",
            "1+c|", "1+|", "1++|", "1c+c|", "1c+10|", "1+10|", "1+1 |", " 1|", "1 |", "1|2,", "1C|", "||||||",
            "|||||||", "1||||||1|", "12341234123412|", "123412341234121|", "1234123|41234123", "12341234123412|0",
            "123412341234121", "1+/|", "1+:|", "1+0|", "1+9|", "/|", ":|", "1c1c+2c|", "1c+", "\u0000", "|\u007f",
        };
        int[] due = {
            -10, -11, -12, -12, -13, -13, -10, -10, -11, -10, -10, -11, -11, -12, -13, -13,
            -12, -12, -12, -13, -14, -13, -13, -10, -11, -13, -11, 0,
            -16, -18, 14, -24, -25, -25,
            -24, -12, -12, 1, 1, -10, -10, -16, -13, -10, -11,
        };
        for (int i = 0; i < texts.length; i++) {
            LiftDrill y = oneAndOne();
            write(y, texts[i]);
            long before = y.digest();
            due("parse() of " + texts[i], y.parse(), due[i]);
            if (due[i] < 0) {
                due("nothing changes with " + texts[i], y.digest(), before);
            }
        }
        StringBuilder text = new StringBuilder();
        for (int i = 0; i < 100; i++) {
            text.append(i < 14 ? "4" : "|");
        }
        due("of 100 bytes", parsed(x, text.toString()), -10 - 20);
        values(x, 3, 1, 1, 0);
    }

    private static void undo() {
        LiftDrill x = new LiftDrill();
        for (int i = 1; i <= 6; i++) {
            x.addChair(0, 1, i, false);
        }
        x.append('|');
        for (int i = 0; i < 4; i++) {
            due("undo()", x.undo(), 3 - i);
            due("chairs", x.value(1), 5 - i);
        }
        refused(x, "a fifth undo()", STATE, () -> x.undo());
        due("the oldest is dropped", x.value(1), 2);
        due("the text is not restored", x.clearText(), 1);
        x.addChair(0, 1, 9, true);
        due("chair 2 anew", x.chair(2, 4), 12);
        due("undo() of it", x.undo(), 0);
        // A call that changes nothing saves, too; one that only asks does not.
        x.setWay(0, 4);
        x.setCold(0, 1);
        x.minutesToAll();
        x.bestSpan();
        x.clearText();
        x.parse();
        due("undo() of setCold", x.undo(), 1);
        due("undo() of setWay", x.undo(), 0);
        refused(x, "no more", STATE, () -> x.undo());
    }

    private static void undoOfAll() {
        LiftDrill x = oneAndOne();
        x.addChair(1, 1, 0, false);
        x.tell();
        x.setWay(1, 9);
        x.pass(13);
        long then = factsOf(x);
        x.setWay(0, 7);
        x.tell();
        x.pass(100);
        x.addTeam(2, 2);
        due("value(9)", x.value(9), 2);
        x.undo();
        x.undo();
        x.undo();
        due("the last undo()", x.undo(), 0);
        due("all is as it was", factsOf(x), then);
    }

    private static void undoOfJournal() {
        LiftDrill x = new LiftDrill();
        x.addChair(1, 1, 0, false);
        x.addChair(0, 1, 0, false);
        x.addTeam(0, 0);
        x.pass(60);
        due("journal(0)", x.journal(0), 1);
        parsed(x, "1+9|1");
        x.addTeam(0, 0);
        x.pass(60);
        due("journal(0) of the text", x.journal(0), 0);
        due("journal(1) of the text", x.journal(1), 1);
        x.undo();
        x.undo();
        x.undo();
        due("journal(0) as it was", x.journal(0), 1);
        due("journal(1) as it was", x.journal(1), 0);
    }

    private static void undoOfPromises() {
        LiftDrill x = oneAndOne();
        x.tell();
        x.setWay(0, 5);
        x.pass(14);
        due("broken", x.value(10), 1);
        team(x, 0, 1, 12, 3, 5, NONE, 1, 3, 5);
        x.undo();
        due("not broken", x.value(10), 0);
        team(x, 0, 0, 9, 0, 0, NONE, 0, 0, 0);
    }

    private static void digest() {
        LiftDrill x = new LiftDrill();
        due("of a new one", x.digest(), hash(x, 0, 0));
        x.append('1');
        x.append('|');
        due("with a text", x.digest(), hash(x, 2, 0));
        x.addChair(1, 3, 5, false);
        x.setWay(0, 9);
        due("without teams", x.digest(), hash(x, 2, 2));
        x.addTeam(0, 9);
        x.addChair(2, 4, 0, true);
        x.tell();
        x.pass(5);
        due("on the way", x.digest(), hash(x, 2, 4));
        x.addTeam(2, 3);
        x.pass(20);
        due("later", x.digest(), hash(x, 2, 4));
        x.pass(100);
        due("all are empty", x.digest(), hash(x, 2, 4));
        x.undo();
        due("after undo()", x.digest(), hash(x, 2, 3));
        x.clearText();
        due("without a text", x.digest(), hash(x, 0, 3));
        due("again", x.digest(), hash(x, 0, 3));
    }

    private static void say(String name) {
        promise = name;
    }

    private static void runCalls() {
        say("promise 1");
        newObject();
        say("promise 2");
        addChair();
        addedBehindUsedOnes();
        say("promise 3");
        addTeam();
        say("promise 4");
        setWay();
        say("promise 5");
        setCold();
        say("promise 6");
        callOff();
        say("promise 7");
        passOneTeam();
        passLimits();
        passCold();
        passChoice();
        passTiredness();
        passHelp();
        say("promise 8");
        promisesTold();
        promisesBroken();
    }

    private static void runQuestions() {
        say("promise 9");
        chairFacts();
        say("promise 10");
        teamFacts();
        say("promise 11");
        valueFacts();
        say("promise 12");
        wayBetween();
        say("promise 13");
        work();
        say("promise 14");
        journal();
        journalOfAll();
        say("promise 15");
        minuteOf();
        say("promise 16");
        minutesToAll();
        say("promise 17");
        bestSpan();
        say("promise 18");
        chosen();
        say("promise 19");
        meanCold();
    }

    private static void runTextAndState() {
        say("promise 20");
        append();
        say("promise 21");
        clearText();
        say("promise 22");
        parseGood();
        parseForgets();
        parseWrong();
        say("promise 23");
        undo();
        undoOfAll();
        undoOfJournal();
        undoOfPromises();
        say("promise 24");
        digest();
    }

    public static void main(String[] args) {
        runCalls();
        runQuestions();
        runTextAndState();
        System.out.println(checks + " checks, " + wrong + " wrong");
        if (wrong != 0) {
            System.exit(1);
        }
    }
}
