import java.io.IOException;
import java.math.BigInteger;
import java.nio.file.Files;
import java.nio.file.Path;
import java.util.ArrayDeque;
import java.util.ArrayList;
import java.util.List;
import java.util.function.Consumer;
import java.util.function.Supplier;

/**
 * Each sentence of the document that names an edge (too small, too large, empty, full, a wrap-around, a refused
 * call), quoted word for word, with a test of its own. A quote that the document does not have is an error, as is
 * a Throws or Returns line or a range of a promise that no test quotes.
 */
public final class EdgeTest {
    private static final String INDEX = "IndexOutOfBoundsException";
    private static final String ARGUMENT = "IllegalArgumentException";
    private static final String STATE = "IllegalStateException";
    private static final int NONE = LiftDrill.NONE;
    private static final int LEAST = Integer.MIN_VALUE;
    private static final int GREATEST = Integer.MAX_VALUE;
    private static final Path DOCUMENT = Path.of("../shared/DOC.md");
    /** The number under which the tests of the document's terms stand, which belong to no one promise. */
    private static final int TERMS = 0;

    private static final List<Integer> promises = new ArrayList<>();
    private static final List<String> sentences = new ArrayList<>();
    private static String current = "";
    private static int checks = 0;
    private static int checksBefore = 0;
    private static int wrong = 0;

    // ---- what the tests are written with

    private static void test(int promise, String sentence, Runnable body) {
        promises.add(promise);
        sentences.add(sentence);
        current = (promise == TERMS ? "terms" : "promise " + promise) + ", \"" + sentence + "\"";
        checksBefore = checks;
        body.run();
        if (checks == checksBefore) {
            fail("nothing was checked");
        }
    }

    private static void fail(String what) {
        wrong++;
        System.out.println(current + ": " + what);
    }

    private static void report(String what, Object got, Object want) {
        checks++;
        if (!got.equals(want)) {
            fail(what + ": " + got + ", due is " + want);
        }
    }

    private static void due(String what, long got, long want) {
        report(what, got, want);
    }

    private static String thrownBy(Runnable call) {
        try {
            call.run();
            return "nothing";
        } catch (RuntimeException e) {
            return e.getClass().getSimpleName();
        }
    }

    /** The call throws just this exception, and leaves all as it is with a twin that never heard of the call. */
    private static void refused(Supplier<LiftDrill> make, String what, String exception, Consumer<LiftDrill> call) {
        LiftDrill x = make.get();
        report(what + " throws", thrownBy(() -> call.accept(x)), exception);
        report(what + " changes nothing", dump(x), dump(make.get()));
    }

    /** All that an object holds: its state, every saved state, and the bytes of its text. It is spent by that. */
    private static String dump(LiftDrill x) {
        StringBuilder all = new StringBuilder();
        all.append(x.digest());
        while (!thrownBy(x::undo).equals(STATE)) {
            all.append(' ').append(x.digest());
        }
        all.append(" parse ").append(x.parse()).append(' ').append(x.digest());
        all.append(" text ").append(x.clearText());
        return all.toString();
    }

    /** The call leaves a saved state behind, and undo() brings that back. */
    private static void undoable(Supplier<LiftDrill> make, String what, Consumer<LiftDrill> call) {
        int saved = drained(make.get());
        due("so few saved states that none is dropped", saved < 4 ? 1 : 0, 1);
        LiftDrill x = make.get();
        call.accept(x);
        due("undo() of " + what, x.undo(), saved);
        report(what + " is undone", dump(x), dump(make.get()));
    }

    private static int drained(LiftDrill x) {
        int count = 0;
        while (!thrownBy(x::undo).equals(STATE)) {
            count++;
        }
        return count;
    }

    private static void write(LiftDrill x, String text) {
        x.clearText();
        for (int i = 0; i < text.length(); i++) {
            x.append(text.charAt(i));
        }
    }

    /** A new object with this line, then with teams: a span and a tiredness each. */
    private static LiftDrill of(String text, int... teams) {
        LiftDrill x = new LiftDrill();
        write(x, text);
        if (x.parse() < 0) {
            fail("cannot read " + text);
        }
        for (int i = 0; i + 1 < teams.length; i += 2) {
            x.addTeam(teams[i], teams[i + 1]);
        }
        return x;
    }

    private static int read(String text) {
        LiftDrill x = new LiftDrill();
        write(x, text);
        return x.parse();
    }

    private static LiftDrill passed(LiftDrill x, int minutes) {
        x.pass(minutes);
        return x;
    }

    private static void team(LiftDrill x, int team, int... facts) {
        for (int what = 0; what < facts.length; what++) {
            due("team(" + team + ", " + what + ")", x.team(team, what), facts[what]);
        }
    }

    private static void chair(LiftDrill x, int chair, int... facts) {
        for (int what = 0; what < facts.length; what++) {
            due("chair(" + chair + ", " + what + ")", x.chair(chair, what), facts[what]);
        }
    }

    private static String times(String text, int count) {
        return text.repeat(count);
    }

    private static LiftDrill full(int chairs, int teams) {
        LiftDrill x = new LiftDrill();
        for (int i = 0; i < chairs; i++) {
            x.addChair(i % 3, 1 + i % 4, i, i % 2 == 0);
        }
        for (int i = 0; i < teams; i++) {
            x.addTeam(i % 3, i * 10);
        }
        return x;
    }

    /** A text, told times, a team that rests, one that brings down, one that walks, chairs of all kinds. */
    private static LiftDrill busy() {
        LiftDrill x = of("1+9|2|34c", 0, 9, 2, 0, 0, 30);
        x.tell();
        x.pass(9);
        return x;
    }

    /** At minute 4999, with a chair that waits and without teams. */
    private static LiftDrill late() {
        LiftDrill x = of("1|");
        for (int i = 0; i < 9; i++) {
            x.pass(500);
        }
        x.pass(499);
        return x;
    }

    // ---- ahead of the promises

    private static void roundedDown() {
        for (int tiredness = 0; tiredness <= 30; tiredness++) {
            int fifths = 0;
            while ((fifths + 1) * 5 <= tiredness) {
                fifths++;
            }
            for (int riders = 1; riders <= 4; riders++) {
                LiftDrill x = of(riders + "|", 0, tiredness);
                due("work of " + riders + " at " + tiredness, x.work(0, 0), 2 + riders + riders * fifths);
            }
        }
    }

    private static void manyCalls() {
        LiftDrill x = new LiftDrill();
        int previous = 4;
        for (int i = 1; i <= 512; i++) {
            int minutes = 1 + i * 7 % 20;
            due("call " + i, x.setWay(1, minutes), previous);
            previous = minutes;
        }
        LiftDrill y = of("1|", 0, 0);
        for (int i = 6; i <= 512; i++) {
            due("call " + i, y.minutesToAll(), 4);
        }
    }

    private static void spanCount() {
        due("spans of a new one", new LiftDrill().value(0), 3);
        for (int spans = 2; spans <= 7; spans++) {
            LiftDrill x = of(times("|", spans - 1));
            due("spans", x.value(0), spans);
            due("chosen() of the last", x.chosen(spans - 1), NONE);
            due("chosen() of the first", x.chosen(0), NONE);
            int behind = spans;
            report("behind the last", thrownBy(() -> x.chosen(behind)), INDEX);
            due("a chair over the last", x.addChair(spans - 1, 1, 0, false), 0);
            due("a team at the last", x.addTeam(spans - 1, 0), 0);
        }
        due("a line without a span more", read(""), -10);
        due("a line of one span", read("1"), -11);
        due("a line of 8 spans", read(times("|", 7)), -16);
    }

    private static void wayLength() {
        LiftDrill x = new LiftDrill();
        due("way(0, 1) of a new one", x.way(0, 1), 4);
        due("way(1, 2) of a new one", x.way(1, 2), 4);
        x.setWay(0, 1);
        due("the shortest", x.way(0, 1), 1);
        x.setWay(0, 20);
        due("the longest", x.way(0, 1), 20);
        refused(EdgeTest::busy, "0", ARGUMENT, y -> y.setWay(0, 0));
        refused(EdgeTest::busy, "21", ARGUMENT, y -> y.setWay(0, 21));
    }

    private static void waySum() {
        LiftDrill x = of("||||||");
        for (int span = 0; span < 6; span++) {
            x.setWay(span, 1 << Math.min(span, 4));
        }
        int[] from0 = {0, 1, 3, 7, 15, 31, 47};
        for (int a = 0; a < 7; a++) {
            for (int b = 0; b < 7; b++) {
                due("way(" + a + ", " + b + ")", x.way(a, b), Math.abs(from0[a] - from0[b]));
            }
        }
        for (int span = 0; span < 6; span++) {
            x.setWay(span, 20);
        }
        due("the longest", x.way(6, 0), 120);
    }

    private static void chairCount() {
        LiftDrill x = new LiftDrill();
        for (int i = 0; i < 14; i++) {
            due("the next one", x.addChair(0, 1, 0, false), i);
        }
        due("chairs", x.value(1), 14);
        due("span of the first", x.chair(0, 0), 0);
        due("span of the 14th", x.chair(13, 0), 0);
        refused(() -> full(14, 0), "a 15th", STATE, y -> y.addChair(0, 1, 0, false));
        refused(() -> full(13, 0), "chair 13 of 13", INDEX, y -> y.chair(13, 0));
        refused(() -> full(14, 0), "chair 14 of 14", INDEX, y -> y.chair(14, 0));
        LiftDrill emptied = of(times("1", 14) + "|", 0, 0);
        emptied.pass(500);
        due("all are empty", emptied.value(6), 14);
        report("empty ones count", thrownBy(() -> emptied.addChair(0, 1, 0, false)), STATE);
    }

    private static void chairLimits() {
        for (int riders = 1; riders <= 4; riders++) {
            LiftDrill x = new LiftDrill();
            x.addChair(1, riders, 0, false);
            x.addChair(1, riders, 20, true);
            chair(x, 0, 1, riders, 0, 0, 0, 0, NONE, NONE, NONE);
            chair(x, 1, 1, riders, 20, 1, 23, 0, NONE, NONE, NONE);
        }
        for (int riders : new int[] {LEAST, -1, 0, 5, GREATEST}) {
            refused(EdgeTest::busy, riders + " riders", ARGUMENT, y -> y.addChair(0, riders, 0, false));
        }
        for (int cold : new int[] {LEAST, -1, 21, GREATEST}) {
            refused(EdgeTest::busy, "cold " + cold, ARGUMENT, y -> y.addChair(0, 1, cold, false));
        }
    }

    private static void chairStates() {
        LiftDrill x = of("|1", 0, 0);
        due("it waits", x.chair(0, 5), 0);
        x.pass(1);
        due("a team is on its way", x.chair(0, 5), 1);
        due("it walks", x.team(0, 2), 1);
        x.pass(4);
        due("its riders are brought down", x.chair(0, 5), 1);
        due("it brings down", x.team(0, 2), 2);
        x.pass(2);
        due("they still are", x.chair(0, 5), 1);
        x.pass(1);
        due("it is empty", x.chair(0, 5), 2);
    }

    private static void ranks() {
        for (int cold = 0; cold <= 20; cold++) {
            LiftDrill x = new LiftDrill();
            x.addChair(0, 4, cold, false);
            x.addChair(0, 1, cold, true);
            due("rank of cold " + cold, x.chair(0, 4), cold);
            due("rank of cold " + cold + " with a child", x.chair(1, 4), cold + 3);
            due("the greatest", x.value(11), cold + 3);
        }
    }

    private static void teamCount() {
        LiftDrill x = new LiftDrill();
        for (int i = 0; i < 4; i++) {
            due("the next one", x.addTeam(2, 0), i);
        }
        due("teams", x.value(2), 4);
        due("span of the first", x.team(0, 0), 2);
        due("span of the fourth", x.team(3, 0), 2);
        refused(() -> full(2, 4), "a 5th", STATE, y -> y.addTeam(0, 0));
        refused(() -> full(2, 3), "team 3 of 3", INDEX, y -> y.team(3, 0));
        refused(() -> full(2, 4), "team 4 of 4", INDEX, y -> y.team(4, 0));
    }

    private static void teamLimits() {
        LiftDrill x = new LiftDrill();
        x.addTeam(0, 0);
        x.addTeam(2, 30);
        team(x, 0, 0, 0, 0, 0, NONE, 0, 0, 0);
        team(x, 1, 2, 30, 0, 0, NONE, 0, 0, 0);
        for (int tiredness : new int[] {LEAST, -1, 31, GREATEST}) {
            refused(EdgeTest::busy, "tiredness " + tiredness, ARGUMENT, y -> y.addTeam(0, tiredness));
        }
    }

    private static void teamStates() {
        LiftDrill x = of("|1", 0, 9);
        team(x, 0, 0, 9, 0, 0, NONE);
        x.pass(1);
        team(x, 0, 0, 9, 1, 4, 0);
        x.pass(4);
        team(x, 0, 1, 9, 2, 4, 0);
        x.pass(4);
        team(x, 0, 1, 10, 3, 5, NONE);
        x.pass(5);
        team(x, 0, 1, 4, 0, 0, NONE);
    }

    private static void firstMinute() {
        LiftDrill x = new LiftDrill();
        due("the first minute", x.value(3), 0);
        x.pass(1);
        due("the next one", x.value(3), 1);
        x.pass(500);
        due("500 later", x.value(3), 501);
        LiftDrill y = of("1|", 0, 0);
        due("of a line that has been read", y.value(3), 0);
    }

    private static void coldRises() {
        LiftDrill x = of("1|1c+9");
        x.addChair(0, 1, 19, false);
        x.addChair(0, 1, 20, true);
        int[][] due = {{9, 0, 9, 19, 20}, {10, 1, 10, 20, 20}, {11, 1, 10, 20, 20}, {19, 1, 10, 20, 20},
            {20, 2, 11, 20, 20}, {21, 2, 11, 20, 20}, {109, 10, 19, 20, 20}, {110, 11, 20, 20, 20},
            {120, 12, 20, 20, 20}, {199, 19, 20, 20, 20}, {200, 20, 20, 20, 20}, {210, 20, 20, 20, 20}};
        for (int[] row : due) {
            x.pass(row[0] - x.value(3));
            for (int i = 0; i < 4; i++) {
                due("cold of " + i + " at " + row[0], x.chair(i, 2), row[i + 1]);
            }
        }
    }

    private static void coldOfOthers() {
        LiftDrill walked = passed(of("||||||1", 0, 0), 11);
        due("one that is walked to", walked.chair(0, 2), 1);
        LiftDrill brought = passed(of("4|", 0, 30), 10);
        due("one that brings down", brought.team(0, 2), 2);
        due("one that is brought down", brought.chair(0, 2), 1);
        LiftDrill emptied = passed(of("1+5|", 0, 0), 9);
        due("an empty one", emptied.chair(0, 2), 5);
        emptied.pass(491);
        due("an empty one much later", emptied.chair(0, 2), 5);
        LiftDrill tenth = of("1+5|");
        tenth.pass(6);
        tenth.addTeam(0, 0);
        due("emptied in the tenth minute", tenth.pass(4), 1);
        due("cold is ahead of the teams", tenth.chair(0, 2), 6);
        LiftDrill eleventh = of("1+5|");
        eleventh.pass(5);
        eleventh.addTeam(0, 0);
        due("emptied in the ninth minute", eleventh.pass(4), 1);
        eleventh.pass(1);
        due("it stays as it was", eleventh.chair(0, 2), 5);
    }

    private static void coldAheadOfChoice() {
        // 20 and 17 with a child are one rank; in the tenth minute the first can't rise, the second does.
        LiftDrill x = new LiftDrill();
        x.addChair(0, 1, 20, false);
        x.addChair(2, 1, 17, true);
        x.pass(8);
        due("ahead of it", x.chosen(0), 0);
        x.pass(1);
        x.addTeam(0, 0);
        x.pass(1);
        due("taken in the tenth minute", x.team(0, 4), 1);
    }

    private static void minutesFall() {
        LiftDrill x = of("|1", 0, 0);
        int[] left = {4, 3, 2, 1, 3, 2, 1, 0};
        int[] doing = {1, 1, 1, 1, 2, 2, 2, 0};
        for (int i = 0; i < left.length; i++) {
            x.pass(1);
            due("left behind minute " + i, x.team(0, 3), left[i]);
            due("doing behind minute " + i, x.team(0, 2), doing[i]);
        }
        x.pass(1);
        due("an idle one has none to lose", x.team(0, 3), 0);
        // Two that end in one minute do so in the order of the teams.
        LiftDrill y = passed(of("2||2", 2, 0, 0, 0), 5);
        due("one minute", y.chair(0, 7) * 10 + y.chair(1, 7), 55);
        due("the chair of team 0 is ahead", y.journal(0), 1);
        due("the chair of team 1 is behind", y.journal(1), 0);
    }

    private static void walkEnds() {
        LiftDrill x = of("4+9|1", 0, 0, 1, 0);
        x.setWay(0, 1);
        x.pass(1);
        team(x, 0, 0, 0, 2, 6, 0);
        team(x, 1, 1, 0, 2, 3, 1);
        // Help that has come by the time of the arrival counts.
        LiftDrill y = passed(of("|4+91", 1, 0, 0, 0), 5);
        team(y, 0, 1, 0, 2, 2, 0);
        team(y, 1, 1, 0, 2, 2, 1, 0, 0, 4);
        // Help that has gone by then does not.
        LiftDrill z = passed(of("|1+91", 1, 0, 0, 0), 5);
        team(z, 0, 1, 1, 0, 0, NONE);
        team(z, 1, 1, 0, 2, 3, 1, 0, 0, 4);
    }

    private static void workEnds() {
        int[][] due = {{0, 1, 1, 0}, {5, 4, 9, 0}, {8, 1, 9, 0}, {9, 1, 10, 3}, {6, 4, 10, 3}, {9, 4, 13, 3},
            {26, 4, 30, 3}, {27, 3, 30, 3}, {27, 4, 30, 3}, {29, 1, 30, 3}, {29, 2, 30, 3}, {30, 1, 30, 3},
            {30, 4, 30, 3}};
        for (int[] row : due) {
            LiftDrill x = of(row[1] + "|", 0, row[0]);
            int work = x.work(0, 0);
            due("one minute less", x.pass(work), 0);
            due("emptied", x.pass(1), 1);
            due("the minute of the chair", x.chair(0, 7), work + 1);
            due("the minute", x.value(3), work + 1);
            team(x, 0, 0, row[2], row[3], row[3] == 3 ? 5 : 0, NONE, 1, row[1], 0);
            chair(x, 0, 0, row[1], (work + 1) / 10, 0, (work + 1) / 10, 2, 0, work + 1, NONE);
        }
    }

    private static void restEnds() {
        int[][] due = {{9, 10, 4}, {12, 13, 7}, {29, 30, 24}, {30, 30, 24}};
        for (int[] row : due) {
            LiftDrill x = of("1|", 0, row[0]);
            x.pass(x.work(0, 0) + 1);
            team(x, 0, 0, row[1], 3, 5, NONE);
            x.pass(4);
            team(x, 0, 0, row[1], 3, 1, NONE);
            x.pass(1);
            team(x, 0, 0, row[2], 0, 0, NONE);
            x.pass(100);
            team(x, 0, 0, row[2], 0, 0, NONE);
        }
        // In the minute in which it has rested it takes the next chair; a tired one that is idle does not rest.
        LiftDrill y = of("11|", 0, 9);
        y.pass(5);
        team(y, 0, 0, 10, 3, 5, NONE);
        y.pass(5);
        team(y, 0, 0, 4, 2, 3, 1);
        LiftDrill z = passed(of("1|", 0, 30), 1);
        team(z, 0, 0, 30, 2, 9, 0);
    }

    private static void choices() {
        due("the greatest rank from far off", of("1|||||1|1+1", 0, 0).chosen(0), 2);
        due("the shortest way", of("1|1||1|", 3, 0).chosen(3), 2);
        due("the lowest of one span", of("|11|", 0, 0).chosen(0), 0);
        due("the lowest of two sides", of("1||1", 1, 0).chosen(1), 0);
        LiftDrill x = new LiftDrill();
        x.addChair(2, 1, 3, false);
        x.addChair(0, 1, 3, false);
        x.addChair(0, 1, 0, true);
        due("the lowest of two sides told last first", x.chosen(1), 0);
        due("a child's 3 is as much as cold's 3", x.chosen(0), 1);
        x.addTeam(0, 0);
        x.addTeam(0, 0);
        x.addTeam(0, 0);
        x.addTeam(0, 0);
        x.pass(1);
        due("team 0 takes first", x.team(0, 4), 1);
        due("team 1 takes what it has left", x.team(1, 4), 2);
        due("team 2 takes the last", x.team(2, 4), 0);
        due("there is none for team 3", x.team(3, 4), NONE);
    }

    private static void beginnings() {
        LiftDrill over = passed(of("2|1+9", 1, 0, 0, 0), 1);
        team(over, 0, 1, 0, 2, 3, 1);
        team(over, 1, 0, 0, 2, 4, 0);
        LiftDrill helped = passed(of("1+92|", 0, 0, 0, 0), 1);
        team(helped, 0, 0, 0, 2, 3, 0);
        team(helped, 1, 0, 0, 2, 3, 1);
        LiftDrill shortest = of("|2", 0, 0);
        shortest.setWay(0, 1);
        shortest.pass(1);
        team(shortest, 0, 0, 0, 1, 1, 0, 0, 0, 0);
        shortest.pass(1);
        team(shortest, 0, 1, 0, 2, 4, 0, 0, 0, 1);
        LiftDrill longest = of("||||||2", 0, 0);
        for (int span = 0; span < 6; span++) {
            longest.setWay(span, 20);
        }
        longest.pass(1);
        team(longest, 0, 0, 0, 1, 120, 0, 0, 0, 0);
        longest.pass(119);
        team(longest, 0, 0, 0, 1, 1, 0, 0, 0, 119);
        longest.pass(1);
        team(longest, 0, 6, 0, 2, 4, 0, 0, 0, 120);
    }

    private static void nothingToTake() {
        LiftDrill x = passed(of("|", 1, 17), 500);
        team(x, 0, 1, 17, 0, 0, NONE, 0, 0, 0);
        LiftDrill y = passed(of("1|", 0, 0, 1, 5), 3);
        team(y, 1, 1, 5, 0, 0, NONE, 0, 0, 0);
        y.pass(100);
        team(y, 1, 1, 5, 0, 0, NONE, 0, 0, 0);
        y.addChair(1, 1, 0, false);
        y.pass(1);
        team(y, 0, 0, 1, 1, 4, 1, 1, 1, 0);
    }

    private static void oneByOne() {
        LiftDrill x = busy();
        LiftDrill y = busy();
        x.pass(200);
        int emptied = 0;
        for (int i = 0; i < 200; i++) {
            emptied += y.pass(1);
            due("the minute", y.value(3), 10 + i);
        }
        due("empty ones", y.value(6), 4);
        due("emptied", emptied, 4 - busy().value(6));
        for (int i = 0; i < 4; i++) {
            for (int what = 0; what <= 8; what++) {
                due("chair(" + i + ", " + what + ")", y.chair(i, what), x.chair(i, what));
            }
        }
    }

    private static void helped() {
        for (int tiredness = 0; tiredness <= 30; tiredness++) {
            for (int riders = 1; riders <= 4; riders++) {
                LiftDrill x = of("4c+9" + riders + "|" + riders, 0, 0, 1, tiredness);
                int work = 2 + riders * (1 + tiredness / 5);
                due("without help", x.work(1, 1), work);
                x.callOff(1);
                x.pass(1);
                x.callOff(1);
                due("with help", x.work(1, 1), work - 1);
                due("over another span", x.work(2, 1), work);
                due("none helps itself", x.work(1, 0), 2 + riders);
            }
        }
        due("the least of all", passed(of("4c1|", 0, 0, 1, 4), 1).work(1, 1), 2);
    }

    private static void helpersCount() {
        LiftDrill x = passed(of("444|4", 0, 0, 0, 0, 0, 0, 1, 30), 1);
        due("the first begins", x.team(0, 3), 6);
        due("the second has one helper", x.team(1, 3), 5);
        due("the third has two, which is 1 less, too", x.team(2, 3), 5);
        due("the fourth has none", x.team(3, 3), 30);
        due("three helpers are 1 less", x.work(0, 3), 29);
        // One that walks away from the span, rests or is idle there is no helper.
        LiftDrill rests = passed(of("11|", 0, 9), 5);
        due("it rests", rests.team(0, 2), 3);
        rests.addTeam(0, 0);
        due("one that rests", rests.work(1, 1), 3);
        LiftDrill idle = of("1|", 0, 0, 0, 0);
        due("one that is idle", idle.work(0, 1), 3);
        LiftDrill walks = passed(of("|1", 0, 0, 1, 30), 1);
        due("it walks", walks.team(0, 2), 1);
        due("one that comes", walks.work(0, 1), 9);
        walks.addChair(0, 1, 0, false);
        due("one that goes", walks.work(1, 1), 9);
    }

    private static void goneOnAlready() {
        // Both arrive in one minute: team 0 is there already for team 1, not the other way round.
        LiftDrill x = passed(of("|11", 0, 0, 0, 0), 5);
        team(x, 0, 1, 0, 2, 3, 0);
        team(x, 1, 1, 0, 2, 2, 1);
        // Team 0 ends in the minute in which team 1 arrives: no help. Team 1 ends as team 0 arrives: help.
        LiftDrill y = passed(of("|2+91", 1, 0, 0, 0), 5);
        team(y, 0, 1, 2, 0, 0, NONE);
        team(y, 1, 1, 0, 2, 3, 1);
        LiftDrill z = of("|12", 0, 0, 1, 0);
        z.setCold(0, 1);
        z.pass(5);
        team(z, 0, 1, 0, 2, 2, 0);
        team(z, 1, 1, 2, 0, 0, NONE);
        // Team 0 ends and takes the next chair in part 3: it finds team 1 that arrived in part 2.
        LiftDrill w = passed(of("|2+912", 1, 0, 0, 0), 5);
        team(w, 0, 1, 2, 2, 3, 2);
        team(w, 1, 1, 0, 2, 3, 1);
    }

    private static void notKnown() {
        LiftDrill x = of("12|3");
        due("tell() without teams", x.tell(), 0);
        for (int i = 0; i < 3; i++) {
            due("the note of " + i, x.chair(i, 8), NONE);
        }
        LiftDrill y = of("1|1", 0, 0);
        due("tell()", y.tell(), 2);
        due("the note of 0", y.chair(0, 8), 4);
        due("the note of 1", y.chair(1, 8), 11);
        y.pass(4);
        y.setWay(0, 9);
        due("tell() with one that is empty", y.tell(), 1);
        due("the note of an empty one stays", y.chair(0, 8), 4);
        due("the walk is not changed", y.chair(1, 8), 11);
        y.pass(7);
        due("tell() with all empty", y.tell(), 0);
        due("the note of 0 still stays", y.chair(0, 8), 4);
        due("the note of 1 stays", y.chair(1, 8), 11);
    }

    /** One chair whose time is told as 8; then the way is changed, and it is emptied. */
    private static LiftDrill toldEight(int way) {
        LiftDrill x = of("|1", 0, 0);
        x.tell();
        due("told", x.chair(0, 8), 8);
        x.setWay(0, way);
        x.pass(4 + way);
        return x;
    }

    private static void brokenOrKept() {
        int[][] due = {{1, 1, 0}, {3, 1, 0}, {4, 1, 0}, {5, 0, 1}, {20, 0, 1}};
        for (int[] row : due) {
            LiftDrill x = toldEight(row[0]);
            due("its minute with a way of " + row[0], x.chair(0, 7), 4 + row[0]);
            due("kept with a way of " + row[0], x.value(9), row[1]);
            due("broken with a way of " + row[0], x.value(10), row[2]);
            x.tell();
            x.pass(500);
            due("counted but once", x.value(9) + x.value(10), 1);
        }
        LiftDrill later = of("|1", 0, 0);
        later.tell();
        later.setWay(0, 20);
        later.tell();
        due("not broken yet", later.pass(8), 0);
        due("broken as long as it waits", later.value(10), 0);
        later.pass(16);
        due("the latest telling was later: kept", later.value(9), 1);
        due("broken", later.value(10), 0);
        LiftDrill sooner = of("|1", 0, 0);
        sooner.setWay(0, 20);
        sooner.tell();
        sooner.setWay(0, 4);
        sooner.tell();
        sooner.setWay(0, 5);
        sooner.pass(9);
        due("the latest telling was sooner: kept", sooner.value(9), 0);
        due("broken", sooner.value(10), 1);
    }

    private static void neither() {
        LiftDrill x = passed(of("1|", 0, 0), 4);
        due("emptied", x.value(6), 1);
        due("kept", x.value(9), 0);
        due("broken", x.value(10), 0);
        LiftDrill y = of("1|");
        y.tell();
        y.addTeam(0, 0);
        y.pass(4);
        due("kept, told without teams", y.value(9), 0);
        due("broken, told without teams", y.value(10), 0);
        LiftDrill z = of("1|", 0, 0);
        z.tell();
        z.addChair(0, 1, 20, false);
        z.pass(4);
        due("emptied first", z.journal(0), 1);
        due("kept", z.value(9) + z.value(10), 0);
        z.pass(3);
        due("broken by the later one", z.value(10), 1);
    }

    // ---- the text

    private static void textFull() {
        LiftDrill x = new LiftDrill();
        for (int i = 1; i <= 100; i++) {
            due("append()", x.append(i), i);
        }
        report("a byte more", thrownBy(() -> x.append('1')), STATE);
        due("the length", x.clearText(), 100);
        due("append() then", x.append('1'), 1);
    }

    private static void emptySpans() {
        due("all spans are empty", read("|"), 0);
        due("seven empty ones", read("||||||"), 0);
        LiftDrill x = of("||1||2|");
        due("chairs", x.value(1), 2);
        due("the span of the first", x.chair(0, 0), 2);
        due("the span of the second", x.chair(1, 0), 4);
        LiftDrill y = of("1|2");
        due("the first span", y.chair(0, 0), 0);
        due("the last span", y.chair(1, 0), 1);
        due("14 over one", read("12341234123412|"), 14);
    }

    private static final String BEHIND_ALL = "1234|";
    private static final String[] BEGINNINGS = {"", "|", "1+5", "1", "1c", "1+", "1c+"};
    private static final String[] CAN_STAND = {BEHIND_ALL, BEHIND_ALL, BEHIND_ALL, BEHIND_ALL + "c+",
        BEHIND_ALL + "+", "0123456789", "0123456789"};

    private static void eachByte() {
        for (int place = 0; place < BEGINNINGS.length; place++) {
            String begin = BEGINNINGS[place];
            for (int value = 0; value <= 127; value++) {
                char sign = (char) value;
                boolean can = CAN_STAND[place].indexOf(sign) >= 0;
                int chairs = (begin.indexOf('1') >= 0 ? 1 : 0)
                    + (!begin.endsWith("+") && "1234".indexOf(sign) >= 0 ? 1 : 0);
                int due = can ? chairs : -10 - begin.length();
                due("byte " + value + " behind " + begin, read(begin + sign + (sign == '+' ? "0|" : "|")), due);
            }
        }
    }

    private static void eachChair() {
        for (int riders = 1; riders <= 4; riders++) {
            for (int cold = 0; cold <= 9; cold++) {
                LiftDrill x = of("|" + riders + "+" + cold + riders + "c+" + cold + "|");
                chair(x, 0, 1, riders, cold, 0, cold, 0, NONE, NONE, NONE);
                chair(x, 1, 1, riders, cold, 1, cold + 3, 0, NONE, NONE, NONE);
            }
            LiftDrill y = of("|" + riders + riders + "c|");
            chair(y, 0, 1, riders, 0, 0, 0, 0, NONE, NONE, NONE);
            chair(y, 1, 1, riders, 0, 1, 3, 0, NONE, NONE, NONE);
        }
        LiftDrill z = of("1+34|");
        due("a digit behind cold is a chair", z.chair(1, 1), 4);
        due("one digit is the cold", z.chair(0, 2), 3);
    }

    private static void lineLimits() {
        String[] texts = {"1", "1|", "|", times("|", 6), times("|", 7), times("1|", 6) + "1", times("1|", 7),
            times("1", 13) + "|", times("1", 14) + "|", times("1", 15) + "|", times("4c+9", 14) + "|",
            "|" + times("1", 14), "|" + times("1", 15)};
        int[] due = {-11, 1, 0, 0, -16, 7, -23, 13, 14, -24, 14, 14, -25};
        for (int i = 0; i < texts.length; i++) {
            due("parse() of " + texts[i], read(texts[i]), due[i]);
        }
    }

    private static void errorPositions() {
        String longest = times("4c+9", 14) + "||||||";
        String[] texts = {"", "4", "4c", "4c+9", "4+", "4c+", "|4+", "|4c+", times("1", 14), times("1", 14) + "+",
            times("1", 15), times("1", 14) + "c5", "||||||" + "|", "||||||1|", "||||||x", "||||||1+|", "x", "|x", "x|",
            "1x", "+", "c", "0", "5", "|0", "|5", "1cc", "1c1c1cc", "1++", "1+5+", "1+5c", "1+c", "1+|", "1+10",
            longest, longest + "1", longest + "|", longest + "c", longest + "+", times("4c+9", 15),
            times("4c+9", 14), times("4c+9", 13) + "4c+", times("1", 100), times("|", 100), times("\0", 100),
            longest + times("x", 38)};
        int[] due = {0, 1, 2, 4, 2, 3, 3, 4, 14, 15,
            14, 15, 6, 7, 6, 8, 0, 1, 0,
            1, 0, 0, 0, 0, 1, 1, 2, 6, 2, 3, 3, 2, 2, 3,
            -24, 62, 62, 62, 62, 56,
            56, 55, 14, 6, 0,
            62};
        for (int i = 0; i < texts.length; i++) {
            due("parse() of " + texts[i], read(texts[i]), -10 - due[i]);
        }
    }

    private static void errorChangesNothing() {
        String[] texts = {"", "1", "1+", "x|", "|||||||", times("1", 15), times("1", 100)};
        for (String text : texts) {
            LiftDrill x = busy();
            LiftDrill twin = busy();
            write(x, text);
            write(twin, text);
            due("parse() is refused", x.parse() < 0 ? 1 : 0, 1);
            due("parse() is refused again", x.parse() < 0 ? 1 : 0, 1);
            report("behind parse() of " + text, dump(x), dump(twin));
        }
    }

    // ---- saved states

    private static void savedCount() {
        for (int calls = 0; calls <= 12; calls++) {
            LiftDrill x = new LiftDrill();
            for (int i = 0; i < calls; i++) {
                x.setWay(0, i + 1);
            }
            int saved = Math.min(calls, 4);
            for (int i = 1; i <= saved; i++) {
                due("undo() " + i + " of " + calls, x.undo(), saved - i);
                due("the way", x.way(0, 1), calls - i == 0 ? 4 : calls - i);
            }
            report("an undo() more", thrownBy(x::undo), STATE);
        }
    }

    private static void savedGoRound() {
        ArrayDeque<Integer> saved = new ArrayDeque<>();
        LiftDrill x = new LiftDrill();
        int now = 4;
        for (int i = 0; i < 400; i++) {
            if (i * i % 7 < 3 || saved.isEmpty()) {
                saved.push(now);
                if (saved.size() > 4) {
                    saved.removeLast();
                }
                due("setWay()", x.setWay(0, 1 + i % 20), now);
                now = 1 + i % 20;
            } else {
                now = saved.pop();
                due("undo()", x.undo(), saved.size());
            }
        }
        due("the way", x.way(0, 1), now);
    }

    private static void savedByAll() {
        undoable(() -> of("|1", 0, 0), "addChair", x -> x.addChair(0, 1, 0, false));
        undoable(() -> of("|1", 0, 0), "addTeam", x -> x.addTeam(0, 0));
        undoable(() -> of("|1", 0, 0), "setWay that changes nothing", x -> x.setWay(0, 4));
        undoable(() -> of("|1", 0, 0), "setCold that changes nothing", x -> x.setCold(0, 0));
        undoable(() -> of("|1", 0, 0), "callOff that changes nothing", x -> x.callOff(0));
        undoable(() -> of("|1", 0, 0), "pass", x -> x.pass(500));
        undoable(() -> of("|1"), "tell that changes nothing", LiftDrill::tell);
        undoable(() -> of("|1"), "parse that changes nothing", LiftDrill::parse);
        undoable(() -> of("|1", 0, 0), "parse", LiftDrill::parse);
    }

    private static void notSaved() {
        Supplier<LiftDrill> make = EdgeTest::busy;
        LiftDrill x = make.get();
        for (int i = 0; i < 4; i++) {
            for (int what = 0; what <= 8; what++) {
                x.chair(i, what);
            }
            x.minuteOf(i);
        }
        for (int what = 0; what <= 7; what++) {
            x.team(0, what);
        }
        for (int what = 0; what <= 11; what++) {
            x.value(what);
        }
        x.way(0, 2);
        x.work(0, 0);
        x.journal(0);
        x.minutesToAll();
        x.bestSpan();
        x.chosen(0);
        x.meanCold();
        x.digest();
        report("questions change nothing", dump(x), dump(make.get()));
        LiftDrill y = new LiftDrill();
        y.append('1');
        y.clearText();
        y.parse();
        report("append, clearText and a refused parse save nothing", thrownBy(y::undo), STATE);
    }

    private static void savedIsAllButText() {
        LiftDrill x = busy();
        for (int i = 0; i < 4; i++) {
            x.pass(3 + i);
        }
        write(x, "1|1|");
        for (int i = 3; i >= 0; i--) {
            x.undo();
            LiftDrill twin = busy();
            for (int k = 0; k < i; k++) {
                twin.pass(3 + k);
            }
            for (int what = 0; what <= 11; what++) {
                due("value(" + what + ")", x.value(what), twin.value(what));
            }
            for (int chair = 0; chair < 4; chair++) {
                for (int what = 0; what <= 8; what++) {
                    due("chair(" + chair + ", " + what + ")", x.chair(chair, what), twin.chair(chair, what));
                }
            }
        }
        due("parse() of the text, which is not restored", x.parse(), 2);
        due("spans", x.value(0), 3);
        x.undo();
        due("the length of the text", x.clearText(), 4);
    }

    /** Chairs 0 and 1 are told 8 and 15, then the second way gets longer: 8 is kept, 20 is too late. */
    private static LiftDrill keptAndBroken() {
        LiftDrill x = of("|1|1", 0, 0);
        x.tell();
        x.setWay(1, 9);
        x.pass(20);
        return x;
    }

    private static void isKeptAndBroken(LiftDrill x) {
        due("journal(0)", x.journal(0), 0);
        due("journal(1)", x.journal(1), 1);
        due("journal(2)", x.journal(2), NONE);
        due("kept", x.value(9), 1);
        due("broken", x.value(10), 1);
        team(x, 0, 2, 2, 0, 0, NONE, 2, 2, 13);
        chair(x, 0, 1, 1, 0, 0, 0, 2, 0, 8, 8);
        chair(x, 1, 2, 1, 2, 0, 2, 2, 0, 20, 15);
        due("the way", x.way(1, 2), 9);
    }

    private static void savedJournalAndPromises() {
        LiftDrill x = keptAndBroken();
        isKeptAndBroken(x);
        write(x, "1|1+9");
        x.parse();
        x.addTeam(0, 30);
        x.pass(100);
        due("journal(0) of the text", x.journal(0), 1);
        due("journal(1) of the text", x.journal(1), 0);
        due("kept of the text", x.value(9), 0);
        due("broken of the text", x.value(10), 0);
        x.undo();
        x.undo();
        x.undo();
        isKeptAndBroken(x);
        // What a question has looked at ahead must not come back, either.
        LiftDrill y = keptAndBroken();
        y.undo();
        y.minutesToAll();
        due("kept before", y.value(9), 0);
        due("broken before", y.value(10), 0);
        due("journal(0) before", y.journal(0), NONE);
    }

    // ---- refused calls

    private static void listedFirst() {
        Supplier<LiftDrill> all = () -> full(14, 4);
        refused(all, "addChair, all three", INDEX, x -> x.addChair(3, 0, 21, false));
        refused(all, "addChair, span and riders", INDEX, x -> x.addChair(-1, 5, 0, false));
        refused(all, "addChair, span and full", INDEX, x -> x.addChair(3, 1, 0, false));
        refused(all, "addChair, riders and full", ARGUMENT, x -> x.addChair(0, 0, 0, false));
        refused(all, "addChair, cold and full", ARGUMENT, x -> x.addChair(0, 1, 21, false));
        refused(all, "addTeam, all three", INDEX, x -> x.addTeam(3, 31));
        refused(all, "addTeam, span and full", INDEX, x -> x.addTeam(-1, 0));
        refused(all, "addTeam, tiredness and full", ARGUMENT, x -> x.addTeam(0, -1));
        refused(all, "setWay", INDEX, x -> x.setWay(2, 0));
        refused(all, "setCold", INDEX, x -> x.setCold(14, 21));
        Supplier<LiftDrill> emptied = () -> passed(of("1|", 0, 0), 4);
        refused(emptied, "setCold of an empty one", ARGUMENT, x -> x.setCold(0, 21));
        refused(emptied, "setCold of none", INDEX, x -> x.setCold(1, 21));
        refused(() -> passed(late(), 1), "pass(0) at 5000", ARGUMENT, x -> x.pass(0));
        refused(() -> passed(late(), 1), "pass(501) at 5000", ARGUMENT, x -> x.pass(501));
        refused(all, "chair", INDEX, x -> x.chair(14, 9));
        refused(all, "team", INDEX, x -> x.team(4, 8));
        report("append", thrownBy(() -> {
            LiftDrill x = new LiftDrill();
            write(x, times("1", 100));
            x.append(128);
        }), ARGUMENT);
    }

    private static void refusedInAnyState() {
        for (Supplier<LiftDrill> make : List.<Supplier<LiftDrill>>of(LiftDrill::new, EdgeTest::busy,
                () -> full(14, 4))) {
            int chairs = make.get().value(1);
            int teams = make.get().value(2);
            for (int span : new int[] {LEAST, -1, 3, GREATEST}) {
                refused(make, "addChair over " + span, INDEX, x -> x.addChair(span, 1, 0, false));
                refused(make, "addTeam at " + span, INDEX, x -> x.addTeam(span, 0));
                refused(make, "setWay of " + span, INDEX, x -> x.setWay(span, 1));
                refused(make, "way from " + span, INDEX, x -> x.way(span, 0));
                refused(make, "way to " + span, INDEX, x -> x.way(0, span));
                refused(make, "chosen of " + span, INDEX, x -> x.chosen(span));
            }
            for (int chair : new int[] {LEAST, -1, chairs, GREATEST}) {
                refused(make, "setCold of " + chair, INDEX, x -> x.setCold(chair, 0));
                refused(make, "chair " + chair, INDEX, x -> x.chair(chair, 0));
                refused(make, "work of " + chair, INDEX, x -> x.work(chair, 0));
                refused(make, "minuteOf " + chair, INDEX, x -> x.minuteOf(chair));
            }
            for (int team : new int[] {LEAST, -1, teams, GREATEST}) {
                refused(make, "callOff of " + team, INDEX, x -> x.callOff(team));
                refused(make, "team " + team, INDEX, x -> x.team(team, 0));
                refused(make, "work for " + team, INDEX, x -> x.work(0, team));
            }
            for (int what : new int[] {LEAST, -1, 12, GREATEST}) {
                refused(make, "value(" + what + ")", ARGUMENT, x -> x.value(what));
            }
            refused(make, "journal(-1)", INDEX, x -> x.journal(-1));
            refused(make, "pass(0)", ARGUMENT, x -> x.pass(0));
            refused(make, "append(128)", ARGUMENT, x -> x.append(128));
        }
    }

    // ---- promises 1 to 8

    private static void emptyObject() {
        LiftDrill x = new LiftDrill();
        int[] due = {3, 0, 0, 0, 0, 0, 0, 0, 0, 0, 0, NONE};
        for (int what = 0; what < due.length; what++) {
            due("value(" + what + ")", x.value(what), due[what]);
        }
        due("minutesToAll()", x.minutesToAll(), 0);
        due("bestSpan()", x.bestSpan(), 0);
        due("chosen(0)", x.chosen(0), NONE);
        due("journal(0)", x.journal(0), NONE);
        report("meanCold()", x.meanCold(), 0.0);
        due("tell()", x.tell(), 0);
        due("pass(500)", x.pass(500), 0);
        report("chair(0, 0)", thrownBy(() -> x.chair(0, 0)), INDEX);
        report("team(0, 0)", thrownBy(() -> x.team(0, 0)), INDEX);
        report("callOff(0)", thrownBy(() -> x.callOff(0)), INDEX);
        report("work(0, 0)", thrownBy(() -> x.work(0, 0)), INDEX);
        report("minuteOf(0)", thrownBy(() -> x.minuteOf(0)), INDEX);
        report("setCold(0, 0)", thrownBy(() -> x.setCold(0, 0)), INDEX);
        due("parse()", x.parse(), -10);
    }

    private static void addChairNumbers() {
        LiftDrill x = new LiftDrill();
        for (int i = 0; i < 14; i++) {
            due("addChair()", x.addChair(i % 3, 1, 0, false), i);
        }
        x.undo();
        due("addChair() again", x.addChair(2, 4, 20, true), 13);
    }

    private static void addChairRiders() {
        for (int riders = 1; riders <= 4; riders++) {
            LiftDrill x = new LiftDrill();
            due("addChair()", x.addChair(0, riders, 0, false), 0);
            due("riders", x.chair(0, 1), riders);
            due("riders that are not down", x.value(7), riders);
        }
        report("0", thrownBy(() -> new LiftDrill().addChair(0, 0, 0, false)), ARGUMENT);
        report("5", thrownBy(() -> new LiftDrill().addChair(0, 5, 0, false)), ARGUMENT);
    }

    private static void addChairCold() {
        for (int cold = 0; cold <= 20; cold++) {
            LiftDrill x = new LiftDrill();
            due("addChair()", x.addChair(0, 1, cold, false), 0);
            due("cold", x.chair(0, 2), cold);
        }
        report("-1", thrownBy(() -> new LiftDrill().addChair(0, 1, -1, false)), ARGUMENT);
        report("21", thrownBy(() -> new LiftDrill().addChair(0, 1, 21, false)), ARGUMENT);
    }

    private static void addChairOutOfRange() {
        int[][] wrongs = {{0, 0}, {5, 0}, {1, -1}, {4, 21}, {0, 21}, {5, -1}, {LEAST, 0}, {GREATEST, 20},
            {1, LEAST}, {4, GREATEST}, {LEAST, GREATEST}};
        for (int[] pair : wrongs) {
            String what = pair[0] + " riders, cold " + pair[1];
            refused(LiftDrill::new, what, ARGUMENT, x -> x.addChair(0, pair[0], pair[1], false));
            refused(EdgeTest::busy, what, ARGUMENT, x -> x.addChair(2, pair[0], pair[1], true));
            refused(() -> full(14, 4), what, ARGUMENT, x -> x.addChair(2, pair[0], pair[1], true));
        }
    }

    private static void addChairSpans() {
        for (int spans = 2; spans <= 7; spans++) {
            int count = spans;
            Supplier<LiftDrill> make = () -> of(times("|", count - 1));
            due("over the first", make.get().addChair(0, 1, 0, false), 0);
            due("over the last", make.get().addChair(count - 1, 1, 0, false), 0);
            refused(make, "behind the last", INDEX, x -> x.addChair(count, 1, 0, false));
            refused(make, "ahead of the first", INDEX, x -> x.addChair(-1, 1, 0, false));
        }
        refused(EdgeTest::busy, "the least", INDEX, x -> x.addChair(LEAST, 1, 0, false));
        refused(EdgeTest::busy, "the greatest", INDEX, x -> x.addChair(GREATEST, 1, 0, false));
    }

    private static void addChairFull() {
        refused(() -> full(14, 0), "a 15th", STATE, x -> x.addChair(0, 1, 0, false));
        due("a 14th", full(13, 0).addChair(0, 1, 0, false), 13);
        refused(() -> of(times("1", 14) + "|"), "a 15th behind a text", STATE, x -> x.addChair(0, 1, 0, false));
        refused(() -> passed(of(times("1", 14) + "|", 0, 0), 500), "a 15th behind empty ones", STATE,
            x -> x.addChair(0, 1, 0, false));
    }

    private static void addTeamNumbers() {
        LiftDrill x = new LiftDrill();
        for (int i = 0; i < 4; i++) {
            due("addTeam()", x.addTeam(i % 3, i * 10), i);
        }
        x.undo();
        due("addTeam() again", x.addTeam(2, 30), 3);
    }

    private static void addTeamIdle() {
        LiftDrill x = new LiftDrill();
        x.addTeam(1, 5);
        team(x, 0, 1, 5, 0, 0, NONE, 0, 0, 0);
        // It is a new one even where another one stood and has worked.
        LiftDrill y = keptAndBroken();
        y.parse();
        y.addTeam(2, 30);
        team(y, 0, 2, 30, 0, 0, NONE, 0, 0, 0);
        y.undo();
        y.addTeam(1, 0);
        team(y, 0, 1, 0, 0, 0, NONE, 0, 0, 0);
    }

    private static void addChairWaits() {
        LiftDrill x = keptAndBroken();
        x.addChair(0, 4, 20, true);
        chair(x, 2, 0, 4, 20, 1, 23, 0, NONE, NONE, NONE);
        x.tell();
        x.pass(40);
        due("it is empty", x.chair(2, 5), 2);
        x.undo();
        x.undo();
        x.undo();
        x.addChair(1, 1, 0, false);
        chair(x, 2, 1, 1, 0, 0, 0, 0, NONE, NONE, NONE);
    }

    private static void addTeamTiredness() {
        for (int tiredness = 0; tiredness <= 30; tiredness++) {
            LiftDrill x = new LiftDrill();
            due("addTeam()", x.addTeam(0, tiredness), 0);
            due("tiredness", x.team(0, 1), tiredness);
            due("it is idle", x.team(0, 2), 0);
        }
        report("-1", thrownBy(() -> new LiftDrill().addTeam(0, -1)), ARGUMENT);
        report("31", thrownBy(() -> new LiftDrill().addTeam(0, 31)), ARGUMENT);
    }

    private static void addTeamOutOfRange() {
        for (int tiredness : new int[] {LEAST, -1, 31, GREATEST}) {
            refused(LiftDrill::new, "" + tiredness, ARGUMENT, x -> x.addTeam(0, tiredness));
            refused(EdgeTest::busy, "" + tiredness, ARGUMENT, x -> x.addTeam(2, tiredness));
            refused(() -> full(14, 4), "" + tiredness, ARGUMENT, x -> x.addTeam(2, tiredness));
        }
    }

    private static void addTeamSpans() {
        for (int spans = 2; spans <= 7; spans++) {
            int count = spans;
            Supplier<LiftDrill> make = () -> of(times("|", count - 1));
            due("at the first", make.get().addTeam(0, 0), 0);
            due("at the last", make.get().addTeam(count - 1, 0), 0);
            refused(make, "behind the last", INDEX, x -> x.addTeam(count, 0));
            refused(make, "ahead of the first", INDEX, x -> x.addTeam(-1, 0));
        }
        refused(EdgeTest::busy, "the least", INDEX, x -> x.addTeam(LEAST, 0));
        refused(EdgeTest::busy, "the greatest", INDEX, x -> x.addTeam(GREATEST, 0));
    }

    private static void addTeamFull() {
        refused(() -> full(0, 4), "a 5th", STATE, x -> x.addTeam(0, 0));
        due("a 4th", full(0, 3).addTeam(0, 0), 3);
        LiftDrill x = full(0, 4);
        x.undo();
        due("a 4th behind undo()", x.addTeam(0, 0), 3);
        write(x, "|");
        x.parse();
        due("a first behind parse()", x.addTeam(0, 0), 0);
    }

    private static void setWaySpans() {
        for (int spans = 2; spans <= 7; spans++) {
            int count = spans;
            Supplier<LiftDrill> make = () -> of(times("|", count - 1));
            due("the first", make.get().setWay(0, 9), 4);
            due("the last but one", make.get().setWay(count - 2, 9), 4);
            refused(make, "the last one", INDEX, x -> x.setWay(count - 1, 9));
            refused(make, "behind the last", INDEX, x -> x.setWay(count, 9));
            refused(make, "ahead of the first", INDEX, x -> x.setWay(-1, 9));
        }
        refused(EdgeTest::busy, "the least", INDEX, x -> x.setWay(LEAST, 9));
        refused(EdgeTest::busy, "the greatest", INDEX, x -> x.setWay(GREATEST, 9));
    }

    private static void setWayMinutes() {
        LiftDrill x = new LiftDrill();
        for (int minutes = 1; minutes <= 20; minutes++) {
            x.setWay(1, minutes);
            due("way(1, 2)", x.way(1, 2), minutes);
            due("way(0, 1)", x.way(0, 1), 4);
        }
        report("0", thrownBy(() -> x.setWay(1, 0)), ARGUMENT);
        report("21", thrownBy(() -> x.setWay(1, 21)), ARGUMENT);
        due("the way stays", x.way(1, 2), 20);
    }

    private static void setWayOutOfRange() {
        for (int minutes : new int[] {LEAST, -1, 0, 21, GREATEST}) {
            refused(LiftDrill::new, "minutes " + minutes, ARGUMENT, x -> x.setWay(1, minutes));
            refused(EdgeTest::busy, "minutes " + minutes, ARGUMENT, x -> x.setWay(0, minutes));
        }
    }

    private static void setWayPrevious() {
        LiftDrill x = new LiftDrill();
        due("the initial one", x.setWay(0, 20), 4);
        due("the longest", x.setWay(0, 1), 20);
        due("the shortest", x.setWay(0, 1), 1);
        due("the same", x.setWay(0, 1), 1);
    }

    private static void setWayOfWalkers() {
        LiftDrill x = passed(of("|1", 0, 0), 1);
        x.setWay(0, 20);
        team(x, 0, 0, 0, 1, 4, 0);
        x.pass(3);
        x.setWay(0, 1);
        team(x, 0, 0, 0, 1, 1, 0);
        x.pass(1);
        team(x, 0, 1, 0, 2, 3, 0);
    }

    private static void setColdChairs() {
        due("the first", full(14, 0).setCold(0, 20), 0);
        due("the last", full(14, 0).setCold(13, 0), 13);
        refused(() -> full(13, 0), "one behind the last", INDEX, x -> x.setCold(13, 0));
        refused(() -> full(14, 0), "a 15th", INDEX, x -> x.setCold(14, 0));
        refused(() -> full(14, 0), "-1", INDEX, x -> x.setCold(-1, 0));
        refused(LiftDrill::new, "one of none", INDEX, x -> x.setCold(0, 0));
    }

    private static void setColdRange() {
        LiftDrill x = of("1|");
        for (int cold = 0; cold <= 20; cold++) {
            x.setCold(0, cold);
            due("cold", x.chair(0, 2), cold);
            due("rank", x.chair(0, 4), cold);
        }
        report("-1", thrownBy(() -> x.setCold(0, -1)), ARGUMENT);
        report("21", thrownBy(() -> x.setCold(0, 21)), ARGUMENT);
        due("the cold stays", x.chair(0, 2), 20);
    }

    private static void setColdOutOfRange() {
        for (int cold : new int[] {LEAST, -1, 21, GREATEST}) {
            for (int chair = 0; chair < 4; chair++) {
                int one = chair;
                refused(EdgeTest::busy, "cold " + cold + " of " + one, ARGUMENT, x -> x.setCold(one, cold));
            }
            refused(() -> passed(busy(), 400), "cold " + cold + " of an empty one", ARGUMENT, x -> x.setCold(0, cold));
        }
    }

    private static void setColdPrevious() {
        LiftDrill x = of("1+9|");
        due("that of the text", x.setCold(0, 20), 9);
        due("the greatest", x.setCold(0, 0), 20);
        due("the least", x.setCold(0, 0), 0);
        x.pass(10);
        due("one that has risen", x.setCold(0, 5), 1);
    }

    private static void setColdEmpty() {
        Supplier<LiftDrill> make = () -> passed(of("1|", 0, 0), 4);
        refused(make, "an empty one", STATE, x -> x.setCold(0, 0));
        refused(make, "an empty one, the greatest cold", STATE, x -> x.setCold(0, 20));
        due("a minute ahead of that", passed(of("1|", 0, 0), 3).setCold(0, 20), 0);
        LiftDrill x = make.get();
        x.undo();
        due("behind undo()", x.setCold(0, 1), 0);
    }

    private static void callOffWalker() {
        LiftDrill x = of("|||1", 1, 7);
        x.pass(8);
        team(x, 0, 1, 7, 1, 1, 0, 0, 0, 7);
        due("in the last minute", x.callOff(0), 0);
        team(x, 0, 1, 7, 0, 0, NONE, 0, 0, 7);
        chair(x, 0, 3, 1, 0, 0, 0, 0, NONE, NONE, NONE);
        x.pass(1);
        team(x, 0, 1, 7, 1, 8, 0, 0, 0, 7);
        x.callOff(0);
        team(x, 0, 1, 7, 0, 0, NONE, 0, 0, 7);
        LiftDrill y = passed(of("1|", 0, 7), 4);
        team(y, 0, 0, 7, 2, 1, 0);
        due("one that brings down, in the last minute", y.callOff(0), 0);
        team(y, 0, 0, 7, 0, 0, NONE, 0, 0, 0);
        due("nothing is emptied", y.value(6), 0);
        due("it waits again", y.value(4), 1);
        y.tell();
        due("the work begins anew", y.chair(0, 8), 9);
        y.callOff(0);
        due("the note stays", y.chair(0, 8), 9);
    }

    private static void callOffResting() {
        LiftDrill x = passed(of("1|", 0, 30), 10);
        team(x, 0, 0, 30, 3, 5, NONE);
        due("one that rests", x.callOff(0), NONE);
        team(x, 0, 0, 30, 0, 0, NONE, 1, 1, 0);
        x.pass(10);
        team(x, 0, 0, 30, 0, 0, NONE, 1, 1, 0);
        due("one that is idle", x.callOff(0), NONE);
        team(x, 0, 0, 30, 0, 0, NONE, 1, 1, 0);
        due("the empty one stays empty", x.chair(0, 5), 2);
        due("its team stays", x.chair(0, 6), 0);
    }

    private static void callOffHad() {
        LiftDrill x = passed(of("1|11", 1, 0, 1, 0), 1);
        due("one that brings down", x.callOff(0), 1);
        due("without one", x.callOff(0), NONE);
        due("the other", x.callOff(1), 2);
        LiftDrill y = passed(of("1|", 1, 0), 1);
        due("chair 0 of one that walks", y.callOff(0), 0);
    }

    private static void callOffNoTeam() {
        refused(LiftDrill::new, "team 0 of none", INDEX, x -> x.callOff(0));
        refused(() -> full(2, 3), "team 3 of 3", INDEX, x -> x.callOff(3));
        refused(() -> full(2, 4), "team 4 of 4", INDEX, x -> x.callOff(4));
        refused(() -> full(2, 4), "team -1", INDEX, x -> x.callOff(-1));
        refused(() -> full(2, 4), "the least", INDEX, x -> x.callOff(LEAST));
        refused(() -> full(2, 4), "the greatest", INDEX, x -> x.callOff(GREATEST));
        due("the last of 4", full(2, 4).callOff(3), NONE);
    }

    private static void passRange() {
        due("1", passed(new LiftDrill(), 1).value(3), 1);
        due("500", passed(new LiftDrill(), 500).value(3), 500);
        report("0", thrownBy(() -> new LiftDrill().pass(0)), ARGUMENT);
        report("501", thrownBy(() -> new LiftDrill().pass(501)), ARGUMENT);
    }

    private static void passOutOfRange() {
        for (int minutes : new int[] {LEAST, -500, -1, 0, 501, GREATEST}) {
            refused(EdgeTest::busy, "pass(" + minutes + ")", ARGUMENT, x -> x.pass(minutes));
            refused(EdgeTest::late, "late pass(" + minutes + ")", ARGUMENT, x -> x.pass(minutes));
        }
    }

    private static void passLast() {
        LiftDrill x = late();
        due("the minute", x.value(3), 4999);
        due("pass(1)", x.pass(1), 0);
        due("the last minute", x.value(3), 5000);
        report("pass(1) at 5000", thrownBy(() -> x.pass(1)), STATE);
        report("pass(500) at 5000", thrownBy(() -> x.pass(500)), STATE);
        refused(EdgeTest::late, "pass(2) at 4999", STATE, y -> y.pass(2));
        refused(EdgeTest::late, "pass(500) at 4999", STATE, y -> y.pass(500));
        LiftDrill z = new LiftDrill();
        for (int i = 0; i < 10; i++) {
            z.pass(500);
        }
        due("ten times 500", z.value(3), 5000);
        z.undo();
        due("pass(499) behind undo()", z.pass(499), 0);
    }

    private static void passEmptied() {
        due("none", of("1|").pass(500), 0);
        due("all 14", of(times("1", 14) + "|", 0, 0).pass(500), 14);
        LiftDrill x = of("11|", 0, 0);
        due("in the first 3 minutes", x.pass(3), 0);
        due("in the fourth", x.pass(1), 1);
        due("in the next 2", x.pass(2), 0);
        due("in the next", x.pass(1), 1);
        due("then", x.pass(500), 0);
        due("two in one minute", of("1||1", 0, 0, 2, 0).pass(4), 2);
    }

    private static void tellCount() {
        due("without chairs", of("|", 0, 0).tell(), 0);
        due("without teams", of("1|").tell(), 0);
        due("one", of("1|", 0, 0).tell(), 1);
        LiftDrill x = of(times("1", 14) + "|", 0, 0);
        due("all 14", x.tell(), 14);
        x.pass(4);
        due("all but an empty one", x.tell(), 13);
        x.pass(496);
        due("all are empty", x.tell(), 0);
        due("all are kept", x.value(9), 14);
    }

    // ---- promises 9 to 14

    private static void chairWhat() {
        LiftDrill x = full(2, 0);
        chair(x, 1, 1, 2, 1, 0, 1, 0, NONE, NONE, NONE);
        for (int what : new int[] {LEAST, -1, 9, GREATEST}) {
            refused(EdgeTest::busy, "what " + what, ARGUMENT, y -> y.chair(0, what));
        }
    }

    private static void chairFacts() {
        LiftDrill x = of("4c+7|1", 0, 0);
        chair(x, 0, 0, 4, 7, 1, 10, 0, NONE, NONE, NONE);
        chair(x, 1, 1, 1, 0, 0, 0, 0, NONE, NONE, NONE);
        x.tell();
        x.pass(6);
        chair(x, 0, 0, 4, 7, 1, 10, 1, 0, NONE, 7);
        x.pass(1);
        chair(x, 0, 0, 4, 7, 1, 10, 2, 0, 7, 7);
        chair(x, 1, 1, 1, 0, 0, 0, 1, 0, NONE, 14);
        x.pass(7);
        chair(x, 1, 1, 1, 1, 0, 1, 2, 0, 14, 14);
    }

    private static void chairNone() {
        refused(LiftDrill::new, "chair 0 of none", INDEX, x -> x.chair(0, 0));
        refused(() -> full(13, 0), "chair 13 of 13", INDEX, x -> x.chair(13, 8));
        refused(() -> full(14, 0), "chair 14 of 14", INDEX, x -> x.chair(14, 0));
        refused(() -> full(14, 0), "chair -1", INDEX, x -> x.chair(-1, 0));
        LiftDrill x = full(14, 0);
        x.undo();
        report("one that is undone", thrownBy(() -> x.chair(13, 0)), INDEX);
        write(x, "1|");
        x.parse();
        report("one that is not in the text", thrownBy(() -> x.chair(1, 0)), INDEX);
    }

    private static void chairTeam() {
        LiftDrill x = of("|1", 1, 0, 1, 0);
        x.callOff(0);
        due("it waits", x.chair(0, 6), NONE);
        x.pass(1);
        due("team 0", x.chair(0, 6), 0);
        x.pass(3);
        due("emptied by team 0", x.chair(0, 6), 0);
        LiftDrill y = passed(of("||12", 0, 0, 0, 0, 0, 0), 1);
        due("team 1 has taken", y.chair(1, 6), 1);
        y.callOff(0);
        due("it waits again", y.chair(0, 6), NONE);
        y.callOff(1);
        due("it waits again, too", y.chair(1, 6), NONE);
    }

    private static void chairMinute() {
        LiftDrill x = of("|1", 0, 0);
        int[] at = {0, 1, 4, 5, 7};
        for (int minute : at) {
            if (minute > x.value(3)) {
                x.pass(minute - x.value(3));
            }
            due("at minute " + minute, x.chair(0, 7), NONE);
        }
        x.pass(1);
        due("in the minute of its end", x.chair(0, 7), 8);
        x.pass(500);
        due("later", x.chair(0, 7), 8);
    }

    private static void chairNote() {
        LiftDrill x = of("1|", 0, 0);
        due("not told", x.chair(0, 8), NONE);
        x.tell();
        due("told", x.chair(0, 8), 4);
        x.undo();
        due("undone", x.chair(0, 8), NONE);
        x.tell();
        x.parse();
        due("behind parse()", x.chair(0, 8), NONE);
    }

    private static void teamWhat() {
        team(full(0, 2), 1, 1, 10, 0, 0, NONE, 0, 0, 0);
        for (int what : new int[] {LEAST, -1, 8, GREATEST}) {
            refused(EdgeTest::busy, "what " + what, ARGUMENT, y -> y.team(0, what));
        }
    }

    private static void teamFacts() {
        LiftDrill x = of("4+7|4", 1, 3);
        team(x, 0, 1, 3, 0, 0, NONE, 0, 0, 0);
        x.pass(2);
        team(x, 0, 1, 3, 1, 3, 0, 0, 0, 1);
        x.pass(3);
        team(x, 0, 0, 3, 2, 6, 0, 0, 0, 4);
        x.pass(6);
        team(x, 0, 0, 7, 1, 4, 1, 1, 4, 4);
        x.pass(14);
        team(x, 0, 1, 11, 3, 5, NONE, 2, 8, 8);
    }

    private static void teamNone() {
        refused(LiftDrill::new, "team 0 of none", INDEX, x -> x.team(0, 0));
        refused(() -> full(0, 3), "team 3 of 3", INDEX, x -> x.team(3, 7));
        refused(() -> full(0, 4), "team 4 of 4", INDEX, x -> x.team(4, 0));
        refused(() -> full(0, 4), "team -1", INDEX, x -> x.team(-1, 0));
        LiftDrill x = full(0, 4);
        x.undo();
        report("one that is undone", thrownBy(() -> x.team(3, 0)), INDEX);
        write(x, "1|");
        x.parse();
        report("one behind parse()", thrownBy(() -> x.team(0, 0)), INDEX);
    }

    private static void teamSpan() {
        LiftDrill x = passed(of("||1", 0, 0), 8);
        due("in the last minute of the way", x.team(0, 0), 0);
        x.pass(1);
        due("there", x.team(0, 0), 2);
    }

    private static void teamLeft() {
        LiftDrill x = of("1|", 0, 9);
        due("idle", x.team(0, 3), 0);
        x.pass(4);
        due("the last minute of the work", x.team(0, 3), 1);
        x.pass(1);
        due("the first minute of the rest", x.team(0, 3), 5);
        x.pass(5);
        due("idle again", x.team(0, 3), 0);
        LiftDrill y = passed(of("1|", 1, 0), 1);
        y.callOff(0);
        due("called off", y.team(0, 3), 0);
    }

    private static void teamChair() {
        LiftDrill x = of("1|", 0, 9);
        due("idle", x.team(0, 4), NONE);
        x.pass(1);
        due("chair 0", x.team(0, 4), 0);
        x.pass(4);
        due("rests", x.team(0, 4), NONE);
        LiftDrill y = passed(of(times("1", 13) + "4+9|", 0, 0), 1);
        due("chair 13", y.team(0, 4), 13);
        y.callOff(0);
        due("called off", y.team(0, 4), NONE);
    }

    private static void teamWalked() {
        LiftDrill x = passed(of("|1", 0, 0), 1);
        due("it has just set out", x.team(0, 7), 0);
        x.pass(1);
        due("one minute", x.team(0, 7), 1);
        x.callOff(0);
        x.pass(3);
        due("called off and set out again", x.team(0, 7), 3);
        x.pass(2);
        due("it is there", x.team(0, 7), 5);
        x.pass(20);
        due("no more", x.team(0, 7), 5);
    }

    private static void valueWhat() {
        int[] due = {3, 2, 3, 0, 2, 0, 0, 3, 0, 0, 0, 3};
        LiftDrill x = full(2, 3);
        for (int what = 0; what < due.length; what++) {
            due("value(" + what + ")", x.value(what), due[what]);
        }
        for (int what : new int[] {LEAST, -1, 12, GREATEST}) {
            refused(EdgeTest::busy, "value(" + what + ")", ARGUMENT, y -> y.value(what));
            refused(LiftDrill::new, "value(" + what + ") of a new one", ARGUMENT, y -> y.value(what));
        }
    }

    private static void valueRank() {
        LiftDrill x = new LiftDrill();
        due("without chairs", x.value(11), NONE);
        x.addChair(0, 1, 0, false);
        due("rank 0", x.value(11), 0);
        x.addChair(0, 1, 20, true);
        due("rank 23", x.value(11), 23);
        x.addTeam(0, 0);
        x.pass(1);
        due("without the taken one", x.value(11), 0);
        x.addTeam(0, 0);
        x.pass(1);
        due("all are taken", x.value(11), NONE);
        x.pass(50);
        due("all are empty", x.value(11), NONE);
    }

    private static void valueCounts() {
        LiftDrill x = of("4|4", 0, 0);
        int[][] due = {{0, 2, 0, 0, 8, 0}, {1, 1, 1, 0, 8, 0}, {7, 0, 1, 1, 4, 4}, {21, 0, 0, 2, 0, 8}};
        for (int[] row : due) {
            if (row[0] > 0) {
                x.pass(row[0] - x.value(3));
            }
            for (int what = 4; what <= 8; what++) {
                due("value(" + what + ") at " + row[0], x.value(what), row[what - 3]);
            }
        }
    }

    private static void waySpans() {
        for (int spans = 2; spans <= 7; spans++) {
            int count = spans;
            Supplier<LiftDrill> make = () -> of(times("|", count - 1));
            due("from the first to the last", make.get().way(0, count - 1), 4 * (count - 1));
            due("from the last to the first", make.get().way(count - 1, 0), 4 * (count - 1));
            refused(make, "from behind the last", INDEX, x -> x.way(count, 0));
            refused(make, "to behind the last", INDEX, x -> x.way(0, count));
            refused(make, "from behind the last to it", INDEX, x -> x.way(count, count));
            refused(make, "from ahead of the first", INDEX, x -> x.way(-1, 0));
            refused(make, "to ahead of the first", INDEX, x -> x.way(0, -1));
            refused(make, "the least", INDEX, x -> x.way(LEAST, GREATEST));
        }
    }

    private static void waySame() {
        LiftDrill x = of("||||||");
        for (int span = 0; span < 7; span++) {
            due("way(" + span + ", " + span + ")", x.way(span, span), 0);
        }
    }

    private static void workNow() {
        LiftDrill x = passed(of("4|1", 0, 0), 3);
        due("of one that is brought down, for the team that does it", x.work(0, 0), 6);
        due("of another one, for it", x.work(1, 0), 3);
        x.pass(4);
        due("of an empty one, for one that is more tired", x.work(0, 0), 6);
        x.pass(100);
        due("of an empty one, later", x.work(0, 0), 10);
        due("the least", of("1|", 0, 0).work(0, 0), 3);
        due("the greatest", of("4|", 0, 30).work(0, 0), 30);
    }

    private static void workNone() {
        refused(LiftDrill::new, "without all", INDEX, x -> x.work(0, 0));
        refused(() -> full(1, 0), "without teams", INDEX, x -> x.work(0, 0));
        refused(() -> full(0, 1), "without chairs", INDEX, x -> x.work(0, 0));
        refused(() -> full(14, 4), "chair 14", INDEX, x -> x.work(14, 0));
        refused(() -> full(14, 4), "team 4", INDEX, x -> x.work(0, 4));
        refused(() -> full(14, 4), "chair -1", INDEX, x -> x.work(-1, 0));
        refused(() -> full(14, 4), "team -1", INDEX, x -> x.work(0, -1));
        due("the last of all", full(14, 4).work(13, 3), 2 + 2 * 7);
    }

    private static void journalShort() {
        LiftDrill x = of("11|", 0, 0);
        due("journal(0) of none", x.journal(0), NONE);
        due("journal(greatest) of none", x.journal(GREATEST), NONE);
        x.pass(3);
        due("journal(0) of none yet", x.journal(0), NONE);
        x.pass(1);
        due("journal(0) of one", x.journal(0), 0);
        due("journal(1) of one", x.journal(1), NONE);
        LiftDrill y = passed(of(times("1", 14) + "|", 0, 0), 500);
        due("journal(13) of 14", y.journal(13), 13);
        due("journal(14) of 14", y.journal(14), NONE);
        due("journal(greatest) of 14", y.journal(GREATEST), NONE);
        y.undo();
        due("journal(0) behind undo()", y.journal(0), NONE);
    }

    private static void journalNegative() {
        refused(LiftDrill::new, "journal(-1) of none", INDEX, x -> x.journal(-1));
        refused(EdgeTest::busy, "journal(-1)", INDEX, x -> x.journal(-1));
        refused(EdgeTest::busy, "journal(least)", INDEX, x -> x.journal(LEAST));
    }

    // ---- promises 15 to 19

    private static void minuteOfAll() {
        LiftDrill x = of("1|");
        due("without teams", x.minuteOf(0), NONE);
        x.addTeam(1, 0);
        due("with one", x.minuteOf(0), 8);
        x.pass(7);
        due("a minute ahead of its end", x.minuteOf(0), 8);
        x.pass(1);
        due("at its end", x.minuteOf(0), 8);
        x.pass(500);
        due("of an empty one", x.minuteOf(0), 8);
        // The last minute, 5000, is one for pass() alone.
        LiftDrill y = late();
        y.addTeam(0, 0);
        due("a look ahead goes behind the last minute", y.minuteOf(0), 5003);
        due("all of it", y.minutesToAll(), 4);
    }

    private static void minuteOfNone() {
        refused(LiftDrill::new, "0 of none", INDEX, x -> x.minuteOf(0));
        refused(() -> full(13, 1), "13 of 13", INDEX, x -> x.minuteOf(13));
        refused(() -> full(14, 1), "14 of 14", INDEX, x -> x.minuteOf(14));
        refused(() -> full(14, 1), "-1", INDEX, x -> x.minuteOf(-1));
        LiftDrill x = full(14, 4);
        due("13 of 14", x.minuteOf(13) > 0 ? 1 : 0, 1);
    }

    private static void toAll() {
        due("without chairs", new LiftDrill().minutesToAll(), 0);
        due("without chairs, with a team", of("|", 0, 0).minutesToAll(), 0);
        due("without teams", of("1|").minutesToAll(), NONE);
        LiftDrill x = of("1|", 0, 0);
        for (int left = 4; left >= 0; left--) {
            due("with " + left + " left", x.minutesToAll(), left);
            x.pass(1);
        }
        due("all are empty", x.minutesToAll(), 0);
        x.addChair(1, 1, 0, false);
        due("with one more", x.minutesToAll(), 8);
    }

    /** The longest line that a long search has found; so "more than 1000" is seen without teams alone. */
    private static LiftDrill longest() {
        int[] chairs = {
            0, 4, 14, 1, 5, 4, 5, 0, 6, 4, 18, 0, 2, 4, 11, 0, 4, 3, 0, 0, 3, 4, 11, 1, 5, 4, 9, 1,
            6, 3, 19, 1, 4, 4, 11, 1, 0, 4, 13, 0, 4, 4, 12, 1, 1, 4, 14, 1, 6, 4, 11, 1, 4, 4, 3, 0,
        };
        int[] ways = {5, 8, 9, 11, 12, 6};
        int[] colds = {18, NONE, 9, 5, 5, 0, 3, 10, 9, 9, 7, 0, 4, 20};
        LiftDrill x = of("||||||");
        for (int span = 0; span < ways.length; span++) {
            x.setWay(span, ways[span]);
        }
        for (int i = 0; i < chairs.length; i += 4) {
            x.addChair(chairs[i], chairs[i + 1], chairs[i + 2], chairs[i + 3] == 1);
        }
        x.addTeam(1, 28);
        x.pass(20);
        for (int span = 0; span < ways.length; span++) {
            x.setWay(span, 20);
        }
        for (int i = 0; i < colds.length; i++) {
            if (colds[i] != NONE) {
                x.setCold(i, colds[i]);
            }
        }
        return x;
    }

    private static void toAllLong() {
        LiftDrill x = longest();
        due("minutesToAll()", x.minutesToAll(), 899);
        due("the latest of all", latest(x), 919);
        due("tell()", x.tell(), 14);
        x.pass(500);
        due("500 later", x.minutesToAll(), 399);
        x.pass(398);
        due("a minute ahead of the end", x.minutesToAll(), 1);
        due("not all are empty", x.value(6), 13);
        due("the last one", x.pass(1), 1);
        due("minutesToAll() then", x.minutesToAll(), 0);
        due("all are kept", x.value(9), 14);
    }

    private static int latest(LiftDrill x) {
        int latest = NONE;
        for (int i = 0; i < x.value(1); i++) {
            latest = Math.max(latest, x.minuteOf(i));
        }
        return latest;
    }

    private static void best() {
        due("without chairs, the lowest", of("|||").bestSpan(), 0);
        due("one chair over the last", of("||||||1").bestSpan(), 6);
        due("of two the lowest", of("1||1").bestSpan(), 0);
        due("all are empty, the lowest", passed(of("||1", 2, 0), 4).bestSpan(), 0);
        due("with 3 teams", of("1+91+91+9||1", 0, 0, 0, 0, 0, 0).bestSpan(), 2);
        due("with 3 teams that leave it nothing", of("|1", 0, 0, 0, 0, 0, 0).bestSpan(), 0);
        due("with 4 teams", of("|1", 0, 0, 0, 0, 0, 0, 0, 0).bestSpan(), NONE);
        due("with 4 teams without chairs", of("|", 0, 0, 0, 0, 0, 0, 0, 0).bestSpan(), NONE);
        refused(() -> of("|1", 0, 0, 0, 0, 0, 0, 0, 0), "with 4 teams: another addTeam", STATE, x -> x.addTeam(0, 0));
        LiftDrill x = of("|1", 0, 0, 0, 0, 0, 0);
        x.bestSpan();
        due("the team is not there", x.value(2), 3);
    }

    /** With a tiredness of 0 it takes 28, 32 and 25 minutes; with 1 to 4 it would be soonest at span 0. */
    private static void bestFresh() {
        LiftDrill x = of("1|4|4");
        due("with a tiredness of 0", x.bestSpan(), 2);
        int[] fresh = {28, 32, 25};
        for (int span = 0; span < 3; span++) {
            LiftDrill y = of("1|4|4", span, 0);
            due("minutesToAll() with one at " + span, y.minutesToAll(), fresh[span]);
        }
    }

    private static void chosenNone() {
        due("without chairs", new LiftDrill().chosen(2), NONE);
        LiftDrill x = of("|1", 0, 0);
        due("chair 0", x.chosen(0), 0);
        x.pass(1);
        due("it is taken", x.chosen(0), NONE);
        x.pass(4);
        due("it is brought down", x.chosen(1), NONE);
        x.pass(3);
        due("it is empty", x.chosen(1), NONE);
        x.undo();
        x.callOff(0);
        due("it waits again", x.chosen(1), 0);
        due("the last of 14", of(times("1", 13) + "1+1|").chosen(1), 13);
    }

    private static void chosenSpans() {
        for (int spans = 2; spans <= 7; spans++) {
            int count = spans;
            Supplier<LiftDrill> make = () -> of("1" + times("|", count - 1));
            due("the first", make.get().chosen(0), 0);
            due("the last", make.get().chosen(count - 1), 0);
            refused(make, "behind the last", INDEX, x -> x.chosen(count));
            refused(make, "ahead of the first", INDEX, x -> x.chosen(-1));
        }
        refused(EdgeTest::busy, "the least", INDEX, x -> x.chosen(LEAST));
        refused(EdgeTest::busy, "the greatest", INDEX, x -> x.chosen(GREATEST));
    }

    private static void mean() {
        report("without chairs", new LiftDrill().meanCold(), 0.0);
        report("of one with 0", of("1|").meanCold(), 0.0);
        LiftDrill x = of("1+1|1+1|1");
        report("of three", x.meanCold(), 2.0 / 3.0);
        x.setCold(0, 20);
        x.setCold(1, 20);
        x.setCold(2, 20);
        report("of the coldest", x.meanCold(), 20.0);
        x.addTeam(0, 0);
        x.pass(1);
        report("taken ones count", x.meanCold(), 20.0);
        LiftDrill y = of("1+9|1+2", 0, 0);
        report("of two", y.meanCold(), 5.5);
        y.pass(4);
        report("the empty one does not count", y.meanCold(), 2.0);
        y.pass(8);
        report("all are empty", y.meanCold(), 0.0);
    }

    // ---- promises 20 to 24

    private static void appendLength() {
        LiftDrill x = new LiftDrill();
        for (int i = 1; i <= 100; i++) {
            due("append()", x.append('|'), i);
        }
        x.clearText();
        due("append() behind clearText()", x.append('|'), 1);
    }

    private static void appendRange() {
        for (int value = 0; value <= 127; value++) {
            due("append(" + value + ")", new LiftDrill().append(value), 1);
        }
        report("-1", thrownBy(() -> new LiftDrill().append(-1)), ARGUMENT);
        report("128", thrownBy(() -> new LiftDrill().append(128)), ARGUMENT);
    }

    private static void appendOutOfRange() {
        for (int value : new int[] {LEAST, -128, -1, 128, 255, 256 + '1', GREATEST}) {
            refused(EdgeTest::busy, "append(" + value + ")", ARGUMENT, x -> x.append(value));
        }
    }

    private static void appendFull() {
        Supplier<LiftDrill> make = () -> {
            LiftDrill x = busy();
            write(x, "1|2+3|4c" + times("x", 92));
            return x;
        };
        refused(make, "a 101st", STATE, x -> x.append('1'));
        refused(make, "a 101st, 0", STATE, x -> x.append(0));
        LiftDrill x = new LiftDrill();
        write(x, times("|", 99));
        due("a 100th", x.append('|'), 100);
    }

    private static void clearLength() {
        LiftDrill x = new LiftDrill();
        due("of none", x.clearText(), 0);
        x.append(0);
        due("of one", x.clearText(), 1);
        due("again", x.clearText(), 0);
        write(x, times("|", 100));
        due("of 100", x.clearText(), 100);
        due("parse() of nothing", x.parse(), -10);
        // What stood there before must not be read again.
        write(x, "1|2");
        x.clearText();
        x.append('|');
        due("parse() of a shorter one", x.parse(), 0);
        due("spans", x.value(0), 2);
    }

    private static void parseCount() {
        due("no chairs", read("|"), 0);
        due("one", read("1|"), 1);
        due("14", read(times("1", 14) + "|"), 14);
        due("the least error", read(""), -10);
        due("the error of a full text", read(times("1|", 50)), -23);
        LiftDrill x = of("1|");
        due("again", x.parse(), 1);
        due("and again", x.parse(), 1);
    }

    private static void parseNew() {
        LiftDrill x = busy();
        x.pass(400);
        x.setWay(0, 20);
        x.setWay(1, 20);
        write(x, "|3c+9");
        due("parse()", x.parse(), 1);
        int[] due = {2, 1, 0, 0, 1, 0, 0, 3, 0, 0, 0, 12};
        for (int what = 0; what < due.length; what++) {
            due("value(" + what + ")", x.value(what), due[what]);
        }
        chair(x, 0, 1, 3, 9, 1, 12, 0, NONE, NONE, NONE);
        due("the way", x.way(0, 1), 4);
        due("the journal", x.journal(0), NONE);
        report("the spans that were", thrownBy(() -> x.way(0, 2)), INDEX);
        report("the teams that were", thrownBy(() -> x.team(0, 0)), INDEX);
        write(x, "||||||");
        x.parse();
        due("all ways are 4", x.way(0, 6), 24);
        LiftDrill y = keptAndBroken();
        y.minutesToAll();
        y.parse();
        due("kept", y.value(9), 0);
        due("broken", y.value(10), 0);
        due("the journal", y.journal(0), NONE);
        due("the way", y.way(1, 2), 4);
        chair(y, 0, 1, 1, 0, 0, 0, 0, NONE, NONE, NONE);
        y.addTeam(0, 0);
        y.pass(8);
        due("nothing is told, so nothing is kept", y.value(9) + y.value(10), 0);
    }

    private static void parseTextStays() {
        LiftDrill x = of("1|2");
        due("parse() again", x.parse(), 2);
        due("append()", x.append('3'), 4);
        due("parse() of more", x.parse(), 3);
        due("append() of what is wrong", x.append('x'), 5);
        due("parse() of that", x.parse(), -14);
        due("parse() of that again", x.parse(), -14);
        due("the length", x.clearText(), 5);
    }

    private static void parseSaves() {
        LiftDrill x = new LiftDrill();
        write(x, "1");
        x.parse();
        report("one with an error", thrownBy(x::undo), STATE);
        x.append('|');
        x.parse();
        due("spans", x.value(0), 2);
        due("undo()", x.undo(), 0);
        due("the line that was", x.value(0), 3);
        due("its chairs", x.value(1), 0);
    }

    private static void undoRemaining() {
        LiftDrill x = new LiftDrill();
        for (int i = 0; i < 4; i++) {
            x.addTeam(0, i);
        }
        for (int i = 3; i >= 0; i--) {
            due("undo()", x.undo(), i);
            due("teams", x.value(2), i);
        }
    }

    private static void undoNone() {
        refused(LiftDrill::new, "of a new one", STATE, LiftDrill::undo);
        Supplier<LiftDrill> spent = () -> {
            LiftDrill x = busy();
            drained(x);
            return x;
        };
        refused(spent, "when all are spent", STATE, LiftDrill::undo);
        LiftDrill x = spent.get();
        x.setWay(0, 9);
        due("behind that", x.undo(), 0);
        report("and then", thrownBy(x::undo), STATE);
    }

    private static BigInteger plain(LiftDrill x, int textLength, int saved) {
        List<Integer> values = new ArrayList<>();
        values.add(textLength);
        for (int what = 0; what <= 11; what++) {
            values.add(x.value(what));
        }
        for (int span = 0; span + 1 < x.value(0); span++) {
            values.add(x.way(span, span + 1));
        }
        for (int i = 0; i < x.value(1); i++) {
            for (int what = 0; what <= 8; what++) {
                values.add(x.chair(i, what));
            }
            values.add(x.minuteOf(i));
        }
        for (int i = 0; i < x.value(2); i++) {
            for (int what = 0; what <= 7; what++) {
                values.add(x.team(i, what));
            }
        }
        for (int i = 0; i < x.value(6); i++) {
            values.add(x.journal(i));
        }
        values.add(x.minutesToAll());
        values.add(saved);
        BigInteger h = BigInteger.valueOf(3517);
        for (int value : values) {
            h = h.multiply(BigInteger.valueOf(31)).add(BigInteger.valueOf(value));
        }
        return h;
    }

    private static void digestValues() {
        LiftDrill x = busy();
        due("of a busy one", x.digest(), plain(x, 9, 4).longValue());
        x.pass(400);
        due("with all empty", x.digest(), plain(x, 9, 4).longValue());
        x.undo();
        due("with 3 saved", x.digest(), plain(x, 9, 3).longValue());
        LiftDrill last = of(times("4c+9", 14) + times("|", 6));
        due("with 14 chairs over 7 spans without teams", last.digest(), plain(last, 62, 1).longValue());
        last.addTeam(0, 0);
        last.addTeam(1, 10);
        last.addTeam(2, 20);
        last.addTeam(6, 30);
        due("with all that can be", last.digest(), plain(last, 62, 4).longValue());
        LiftDrill text = new LiftDrill();
        write(text, times("x", 100));
        due("with a full text", text.digest(), plain(text, 100, 0).longValue());
    }

    private static void digestOverflow() {
        LiftDrill x = new LiftDrill();
        BigInteger whole = plain(x, 0, 0);
        due("more than a long has", whole.bitLength() > 63 ? 1 : 0, 1);
        due("its lowest 64 bits", x.digest(), whole.longValue());
        LiftDrill y = of("4|");
        for (int i = 0; i < 10; i++) {
            y.setCold(0, i % 21);
            BigInteger h = plain(y, 2, Math.min(4, i + 2));
            due("its lowest 64 bits, " + i, y.digest(), h.longValue());
        }
    }

    // ---- which sentence has which test

    private static void runTerms() {
        test(TERMS, "a / b means division rounded down; all divided numbers are 0 or more.", EdgeTest::roundedDown);
        test(TERMS, "An object is used for at most 512 calls after it has been made", EdgeTest::manyCalls);
        test(TERMS, "There are 2 to 7 spans in a row, numbered from 0, initially 3.", EdgeTest::spanCount);
        test(TERMS, "The way between span k and span k + 1 is 1 to 20 minutes long, initially 4", EdgeTest::wayLength);
        test(TERMS, "the way between two spans is the sum of those between them, 0 for the same one.",
            EdgeTest::waySum);
        test(TERMS, "There are at most 14 chairs, numbered from 0.", EdgeTest::chairCount);
        test(TERMS, "it has 1 to 4 riders, and a child among them or not; its cold is 0 to 20.",
            EdgeTest::chairLimits);
        test(TERMS, "It waits, is taken (a team is on its way to it, or brings its riders down), or is empty.",
            EdgeTest::chairStates);
        test(TERMS, "Its rank is its cold, plus 3 with a child.", EdgeTest::ranks);
        test(TERMS, "There are at most 4 teams, numbered from 0.", EdgeTest::teamCount);
        test(TERMS, "its tiredness is 0 to 30.", EdgeTest::teamLimits);
        test(TERMS, "It is idle, walks to a chair, brings riders down, or rests; for all but the first there are "
            + "minutes left.", EdgeTest::teamStates);
    }

    private static void runMinute() {
        test(TERMS, "The minutes are counted from 0.", EdgeTest::firstMinute);
        test(TERMS, "If the number of the minute plus 1 is divisible by 10, the cold of each chair that is not empty "
            + "rises by 1, up to 20.", EdgeTest::coldRises);
        test(TERMS, "the cold of each chair that is not empty rises by 1", EdgeTest::coldOfOthers);
        test(TERMS, "When a minute passes, these things happen, in this order", EdgeTest::coldAheadOfChoice);
        test(TERMS, "For each team that is not idle, in ascending order, its minutes left fall by 1. If they are 0 "
            + "then", EdgeTest::minutesFall);
        test(TERMS, "a team that walked is at the span of its chair, and brings the riders down from now on, for as "
            + "many minutes as the chair's work for it tells at this moment", EdgeTest::walkEnds);
        test(TERMS, "a team that brought riders down has emptied its chair; this minute plus 1 is the minute of the "
            + "chair; its tiredness grows by the riders, up to 30; if it is at least 10 then, the team rests for 5 "
            + "minutes from now on, otherwise it is idle", EdgeTest::workEnds);
        test(TERMS, "a team that rested is idle, and its tiredness falls by 6, not below 0.", EdgeTest::restEnds);
        test(TERMS, "of the chairs that wait it takes the one with the greatest rank, of several the one with the "
            + "shortest way from its span, of several the lowest one.", EdgeTest::choices);
        test(TERMS, "If the way is 0, it brings the riders down from now on, for as many minutes as the work tells at "
            + "this moment; otherwise it walks for as many minutes as the way is long.", EdgeTest::beginnings);
        test(TERMS, "If no chair waits, it stays idle.", EdgeTest::nothingToTake);
        test(TERMS, "Then the minute is the next one.", EdgeTest::oneByOne);
        test(TERMS, "The work of a chair for a team is 2 + riders * (1 + tiredness / 5) minutes, or, if another team "
            + "brings riders down over the span of the chair at this moment (teams ahead of it in the same part have "
            + "gone on already), 1 less, but at least 1.", EdgeTest::helped);
        test(TERMS, "if another team brings riders down over the span of the chair at this moment",
            EdgeTest::helpersCount);
        test(TERMS, "(teams ahead of it in the same part have gone on already)", EdgeTest::goneOnAlready);
    }

    private static void runTold() {
        test(TERMS, "for a chair for which that is not known nothing is noted any more, and notes of empty chairs "
            + "stay", EdgeTest::notKnown);
        test(TERMS, "A promise is broken if a chair is emptied later than the time noted for it at the latest "
            + "telling; it is kept if not later.", EdgeTest::brokenOrKept);
        test(TERMS, "(A chair without a noted time counts as neither.)", EdgeTest::neither);
    }

    private static void runText() {
        test(TERMS, "The text has at most 100 bytes.", EdgeTest::textFull);
        test(TERMS, "a span is a sequence of chairs, perhaps none", EdgeTest::emptySpans);
        test(TERMS, "a chair is a digit 1 to 4, its riders, perhaps \"c\" for a child, and perhaps \"+\" and a digit "
            + "0 to 9, its cold (0 without it).", EdgeTest::eachChair);
        test(TERMS, "the first byte that cannot stand where it stands", EdgeTest::eachByte);
        test(TERMS, "There are 2 to 7 spans and at most 14 chairs.", EdgeTest::lineLimits);
        test(TERMS, "The syntax error position is the index of the first byte that cannot stand where it stands (the "
            + "digit of a 15th chair, the \"|\" behind a seventh span, too), or the length of the text if the text "
            + "ends too early (with only one span, or behind a \"+\").", EdgeTest::errorPositions);
    }

    private static void runSavedAndRefused() {
        test(TERMS, "at most 4 states are saved, and the oldest is dropped first.", EdgeTest::savedCount);
        test(TERMS, "at most 4 states are saved", EdgeTest::savedGoRound);
        test(TERMS, "saves the state from before the call, even if the call changes nothing", EdgeTest::savedByAll);
        test(TERMS, "Each successful call of a method whose description says \"undoable\"", EdgeTest::notSaved);
        test(TERMS, "The saved state contains everything except the text.", EdgeTest::savedIsAllButText);
        test(TERMS, "The saved state contains everything", EdgeTest::savedJournalAndPromises);
        test(TERMS, "A call that throws an exception changes nothing.", EdgeTest::refusedInAnyState);
        test(TERMS, "If several exceptions apply, the one that is listed first is thrown.", EdgeTest::listedFirst);
        test(TERMS, "`NONE = -1`: There is no such thing.", () -> due("NONE", LiftDrill.NONE, -1));
    }

    private static void runFirstPromises() {
        test(1, "Creates a line of 3 spans without chairs and teams, at minute 0.", EdgeTest::emptyObject);
        test(2, "- `riders`: 1 to 4", EdgeTest::addChairRiders);
        test(2, "- `cold`: 0 to 20", EdgeTest::addChairCold);
        test(2, "Returns the number of the chair.", EdgeTest::addChairNumbers);
        test(2, "Throws `IndexOutOfBoundsException` if there is no such span", EdgeTest::addChairSpans);
        test(2, "Throws `IllegalArgumentException` if riders or cold is out of range",
            EdgeTest::addChairOutOfRange);
        test(2, "Throws `IllegalStateException` if there are 14 chairs", EdgeTest::addChairFull);
        test(2, "Adds a chair that waits.", EdgeTest::addChairWaits);
        test(3, "Adds a team that is idle.", EdgeTest::addTeamIdle);
        test(3, "- `tiredness`: 0 to 30", EdgeTest::addTeamTiredness);
        test(3, "Returns the number of the team.", EdgeTest::addTeamNumbers);
        test(3, "Throws `IndexOutOfBoundsException` if there is no such span", EdgeTest::addTeamSpans);
        test(3, "Throws `IllegalArgumentException` if tiredness is out of range", EdgeTest::addTeamOutOfRange);
        test(3, "Throws `IllegalStateException` if there are 4 teams", EdgeTest::addTeamFull);
        test(4, "- `minutes`: 1 to 20", EdgeTest::setWayMinutes);
        test(4, "(Teams that walk are not changed.)", EdgeTest::setWayOfWalkers);
        test(4, "Returns the previous way.", EdgeTest::setWayPrevious);
        test(4, "Throws `IndexOutOfBoundsException` if there is no such span, or it is the last one",
            EdgeTest::setWaySpans);
        test(4, "Throws `IllegalArgumentException` if minutes is out of range", EdgeTest::setWayOutOfRange);
        test(5, "- `cold`: 0 to 20", EdgeTest::setColdRange);
        test(5, "Returns the previous cold.", EdgeTest::setColdPrevious);
        test(5, "Throws `IndexOutOfBoundsException` if there is no such chair", EdgeTest::setColdChairs);
        test(5, "Throws `IllegalArgumentException` if cold is out of range", EdgeTest::setColdOutOfRange);
        test(5, "Throws `IllegalStateException` if the chair is empty", EdgeTest::setColdEmpty);
        test(6, "it is idle at its span (a team that walks: at the span from which it came), and the chair that it "
            + "had waits again.", EdgeTest::callOffWalker);
        test(6, "A team that rests or is idle is idle then; its tiredness stays.", EdgeTest::callOffResting);
        test(6, "Returns the chair that it had; NONE without one.", EdgeTest::callOffHad);
        test(6, "Throws `IndexOutOfBoundsException` if there is no such team", EdgeTest::callOffNoTeam);
        test(7, "- `minutes`: 1 to 500", EdgeTest::passRange);
        test(7, "Returns the number of chairs that are emptied in them.", EdgeTest::passEmptied);
        test(7, "Throws `IllegalArgumentException` if minutes is out of range", EdgeTest::passOutOfRange);
        test(7, "Throws `IllegalStateException` if the minute would be greater than 5000", EdgeTest::passLast);
        test(8, "Returns the number of chairs for which a time is noted by this call.", EdgeTest::tellCount);
    }

    private static void runQuestions() {
        test(9, "6 the team that has taken it or emptied it (NONE if it waits)", EdgeTest::chairTeam);
        test(9, "7 its minute (NONE if it is not empty)", EdgeTest::chairMinute);
        test(9, "8 the time noted for it (NONE without one)", EdgeTest::chairNote);
        test(9, "Returns that value.", EdgeTest::chairFacts);
        test(9, "Throws `IndexOutOfBoundsException` if there is no such chair", EdgeTest::chairNone);
        test(9, "Throws `IllegalArgumentException` if what is out of range", EdgeTest::chairWhat);
        test(10, "0 its span (of one that walks: that from which it came)", EdgeTest::teamSpan);
        test(10, "3 its minutes left (0 if it is idle)", EdgeTest::teamLeft);
        test(10, "4 the chair that it has (NONE without one)", EdgeTest::teamChair);
        test(10, "7 the minutes in which it has walked so far, on walks that were called off, too",
            EdgeTest::teamWalked);
        test(10, "Returns that value.", EdgeTest::teamFacts);
        test(10, "Throws `IndexOutOfBoundsException` if there is no such team", EdgeTest::teamNone);
        test(10, "Throws `IllegalArgumentException` if what is out of range", EdgeTest::teamWhat);
        test(11, "11 the greatest rank of a chair that waits (NONE without one)", EdgeTest::valueRank);
        test(11, "Returns that number.", EdgeTest::valueCounts);
        test(11, "Throws `IllegalArgumentException` if what is out of range", EdgeTest::valueWhat);
        test(12, "Returns the minutes.", EdgeTest::waySame);
        test(12, "Throws `IndexOutOfBoundsException` if there is no such span", EdgeTest::waySpans);
        test(13, "Returns the minutes.", EdgeTest::workNow);
        test(13, "Throws `IndexOutOfBoundsException` if there is no such chair or team", EdgeTest::workNone);
        test(14, "Returns the chair; NONE if there are not so many.", EdgeTest::journalShort);
        test(14, "Throws `IndexOutOfBoundsException` if index is negative", EdgeTest::journalNegative);
        test(15, "Returns its minute (for an empty one as it is); NONE if it would not be empty behind 1000 minutes.",
            EdgeTest::minuteOfAll);
        test(15, "Throws `IndexOutOfBoundsException` if there is no such chair", EdgeTest::minuteOfNone);
        test(16, "Returns the minutes, 0 if they are; NONE if that would be more than 1000.", EdgeTest::toAll);
        test(16, "Tells how many minutes would pass until all chairs would be empty.", EdgeTest::toAllLong);
        test(17, "Returns the span, of several the lowest one; NONE if there are 4 teams, or it would take more than "
            + "1000 minutes with any of them.", EdgeTest::best);
        test(17, "one more team, with a tiredness of 0, would let all chairs be empty soonest.",
            EdgeTest::bestFresh);
        test(18, "Returns the chair; NONE if no chair waits.", EdgeTest::chosenNone);
        test(18, "Throws `IndexOutOfBoundsException` if there is no such span", EdgeTest::chosenSpans);
        test(19, "Returns the sum of their colds, converted to double, divided by their number, converted to double; "
            + "0.0 without any.", EdgeTest::mean);
    }

    private static void runLastPromises() {
        test(20, "- `value`: the byte, 0 to 127", EdgeTest::appendRange);
        test(20, "Returns the new length of the text.", EdgeTest::appendLength);
        test(20, "Throws `IllegalArgumentException` if value is out of range", EdgeTest::appendOutOfRange);
        test(20, "Throws `IllegalStateException` if the text has 100 bytes", EdgeTest::appendFull);
        test(21, "Returns the length that it had.", EdgeTest::clearLength);
        test(22, "all waiting, ways of 4 minutes, without teams, at minute 0, with nothing told, no promises kept or "
            + "broken, and an empty journal.", EdgeTest::parseNew);
        test(22, "The text stays as it is.", EdgeTest::parseTextStays);
        test(22, "Undoable, if there is no syntax error.", EdgeTest::parseSaves);
        test(22, "Returns the number of chairs; -10 minus the syntax error position if there is a syntax error",
            EdgeTest::parseCount);
        test(22, "(then nothing changes)", EdgeTest::errorChangesNothing);
        test(23, "Returns the number of saved states that remain.", EdgeTest::undoRemaining);
        test(23, "Throws `IllegalStateException` if there is no saved state", EdgeTest::undoNone);
        test(24, "Start with h = 3517 and, for each of the following values v, set h = 31 * h + v",
            EdgeTest::digestValues);
        test(24, "Returns the hash, with the overflow of long arithmetic ignored.", EdgeTest::digestOverflow);
    }

    // ---- whether the tests and the document are at one

    /** The document's text under each promise's head, and all of it under TERMS. */
    private static List<List<String>> promisesOfDocument(List<String> lines) {
        List<List<String>> found = new ArrayList<>();
        found.add(lines);
        for (String line : lines) {
            if (line.startsWith("## Promise ")) {
                found.add(new ArrayList<>());
            }
            if (found.size() > 1) {
                found.get(found.size() - 1).add(line);
            }
        }
        return found;
    }

    private static boolean namesAnEdge(String line) {
        return line.startsWith("Throws `") || line.startsWith("Returns ") && !line.equals("Returns that.")
            || line.matches("- `[a-z]+`: (.*, )?-?[0-9]+ to [0-9]+.*");
    }

    private static boolean isQuoted(int promise, String line) {
        for (int i = 0; i < sentences.size(); i++) {
            if (promises.get(i) == promise && line.contains(sentences.get(i))) {
                return true;
            }
        }
        return false;
    }

    private static void compareWithDocument() throws IOException {
        current = "the document";
        if (!Files.isReadable(DOCUMENT)) {
            System.out.println("there is no " + DOCUMENT + " to compare the quotes with");
            return;
        }
        List<List<String>> document = promisesOfDocument(Files.readAllLines(DOCUMENT));
        for (int i = 0; i < sentences.size(); i++) {
            int promise = promises.get(i);
            String text = promise < document.size() ? String.join("\n", document.get(promise)) : "";
            report("has \"" + sentences.get(i) + "\" at " + promise, text.contains(sentences.get(i)), true);
        }
        for (int promise = 1; promise < document.size(); promise++) {
            for (String line : document.get(promise)) {
                if (namesAnEdge(line)) {
                    report("a test of promise " + promise + " quotes \"" + line + "\"", isQuoted(promise, line), true);
                }
            }
        }
    }

    public static void main(String[] args) throws IOException {
        runTerms();
        runMinute();
        runTold();
        runText();
        runSavedAndRefused();
        runFirstPromises();
        runQuestions();
        runLastPromises();
        compareWithDocument();
        System.out.println(sentences.size() + " sentences, " + checks + " checks, " + wrong + " wrong");
        if (wrong != 0) {
            System.exit(1);
        }
    }
}
