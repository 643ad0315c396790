import java.util.ArrayDeque;
import java.util.ArrayList;
import java.util.Comparator;
import java.util.List;
import java.util.regex.Pattern;
import java.util.stream.IntStream;

/** Long runs of calls, always the same ones, compared with a second, slow telling of the document. */
public final class ModelTest {
    private static final int RUNS = 1500;
    private static final int CALLS = 200;

    /** A state, told with lists and records of its own; every what-if question is a copy that lives on. */
    private static final class State {
        static final class Chair {
            int span, riders, cold, minute = -1, noted = -1, team = -1, state;
            boolean child;
        }

        static final class Team {
            int span, tired, left, chair = -1, emptied, riders, walked;
            char doing = 'i';
        }

        final List<Integer> ways = new ArrayList<>(List.of(4, 4));
        final List<Chair> chairs = new ArrayList<>();
        final List<Team> teams = new ArrayList<>();
        final List<Integer> journal = new ArrayList<>();
        int minute, kept, broken;

        State copy() {
            State s = new State();
            s.ways.clear();
            s.ways.addAll(ways);
            s.journal.addAll(journal);
            s.minute = minute;
            s.kept = kept;
            s.broken = broken;
            for (Chair c : chairs) {
                Chair d = new Chair();
                d.span = c.span; d.riders = c.riders; d.cold = c.cold; d.minute = c.minute; d.noted = c.noted;
                d.team = c.team; d.state = c.state; d.child = c.child;
                s.chairs.add(d);
            }
            for (Team t : teams) {
                Team u = new Team();
                u.span = t.span; u.tired = t.tired; u.left = t.left; u.chair = t.chair; u.emptied = t.emptied;
                u.riders = t.riders; u.walked = t.walked; u.doing = t.doing;
                s.teams.add(u);
            }
            return s;
        }

        int spans() {
            return ways.size() + 1;
        }

        int way(int a, int b) {
            return a > b ? way(b, a) : ways.subList(a, b).stream().mapToInt(w -> w).sum();
        }

        int rank(Chair c) {
            return c.cold + (c.child ? 3 : 0);
        }

        int work(Chair c, Team t) {
            boolean help = teams.stream().anyMatch(o -> o != t && o.doing == 'b' && chairs.get(o.chair).span == c.span);
            return Math.max(1, 2 + c.riders * (1 + t.tired / 5) - (help ? 1 : 0));
        }

        int chosen(int span) {
            return IntStream.range(0, chairs.size()).filter(i -> chairs.get(i).state == 0).boxed()
                .min(Comparator.<Integer>comparingInt(i -> -rank(chairs.get(i)))
                    .thenComparingInt(i -> way(span, chairs.get(i).span))
                    .thenComparingInt(i -> i)).orElse(-1);
        }

        void tick() {
            int next = minute + 1;
            if (next % 10 == 0) {
                for (Chair c : chairs) {
                    if (c.state != 2 && c.cold < 20) {
                        c.cold++;
                    }
                }
            }
            for (Team t : teams) {
                if (t.doing != 'i') {
                    if (t.doing == 'w') {
                        t.walked++;
                    }
                    if (--t.left == 0) {
                        ended(t, next);
                    }
                }
            }
            for (int k = 0; k < teams.size(); k++) {
                Team t = teams.get(k);
                int pick = t.doing == 'i' ? chosen(t.span) : -1;
                if (pick >= 0) {
                    Chair c = chairs.get(pick);
                    t.chair = pick;
                    c.team = k;
                    c.state = 1;
                    int far = way(t.span, c.span);
                    t.left = far == 0 ? work(c, t) : far;
                    t.doing = far == 0 ? 'b' : 'w';
                }
            }
            minute = next;
        }

        void ended(Team t, int next) {
            if (t.doing == 'r') {
                t.doing = 'i';
                t.tired = Math.max(0, t.tired - 6);
                return;
            }
            Chair c = chairs.get(t.chair);
            if (t.doing == 'w') {
                t.span = c.span;
                t.left = work(c, t);
                t.doing = 'b';
                return;
            }
            c.state = 2;
            c.minute = next;
            journal.add(t.chair);
            if (c.noted >= 0) {
                if (next > c.noted) {
                    broken++;
                } else {
                    kept++;
                }
            }
            t.emptied++;
            t.riders += c.riders;
            t.chair = -1;
            t.tired = Math.min(30, t.tired + c.riders);
            t.doing = t.tired >= 10 ? 'r' : 'i';
            t.left = t.tired >= 10 ? 5 : 0;
        }

        int minuteOf(int chair) {
            State s = copy();
            for (int i = 0; i < 1000 && s.chairs.get(chair).state != 2; i++) {
                s.tick();
            }
            return s.chairs.get(chair).minute;
        }

        int minutesToAll() {
            State s = copy();
            for (int i = 0; i <= 1000; i++) {
                if (s.chairs.stream().allMatch(c -> c.state == 2)) {
                    return i;
                }
                s.tick();
            }
            return -1;
        }

        int chairFact(int i, int what) {
            Chair c = chairs.get(i);
            return new int[] {c.span, c.riders, c.cold, c.child ? 1 : 0, rank(c), c.state, c.team, c.minute,
                c.noted}[what];
        }

        int teamFact(int i, int what) {
            Team t = teams.get(i);
            return new int[] {t.span, t.tired, "iwbr".indexOf(t.doing), t.left, t.chair, t.emptied, t.riders,
                t.walked}[what];
        }

        int value(int what) {
            return new int[] {spans(), chairs.size(), teams.size(), minute, in(0), in(1), in(2),
                chairs.stream().filter(c -> c.state != 2).mapToInt(c -> c.riders).sum(),
                chairs.stream().filter(c -> c.state == 2).mapToInt(c -> c.riders).sum(), kept, broken,
                chairs.stream().filter(c -> c.state == 0).mapToInt(this::rank).max().orElse(-1)}[what];
        }

        int in(int state) {
            return (int) chairs.stream().filter(c -> c.state == state).count();
        }
    }

    /** The calls of the face over the states; answers are longs, exceptions are thrown. */
    private static final class Model {
        private static final Pattern START = Pattern.compile("([1-4]c?(\\+[0-9])?|\\|)*([1-4]c?\\+)?");
        private static final Pattern WHOLE = Pattern.compile("([1-4]c?(\\+[0-9])?|\\|)*");

        State now = new State();
        ArrayDeque<State> saved = new ArrayDeque<>();
        StringBuilder text = new StringBuilder();

        private void index(boolean good) {
            if (!good) {
                throw new IndexOutOfBoundsException();
            }
        }

        private void argument(boolean good) {
            if (!good) {
                throw new IllegalArgumentException();
            }
        }

        private void state(boolean good) {
            if (!good) {
                throw new IllegalStateException();
            }
        }

        private boolean span(int k) {
            return k >= 0 && k < now.spans();
        }

        private boolean chairs(int k) {
            return k >= 0 && k < now.chairs.size();
        }

        private boolean teams(int k) {
            return k >= 0 && k < now.teams.size();
        }

        private boolean in(int v, int low, int high) {
            return low <= v && v <= high;
        }

        private void save() {
            saved.push(now.copy());
            if (saved.size() > 4) {
                saved.removeLast();
            }
        }

        long addChair(int span, int riders, int cold, boolean child) {
            index(span(span));
            argument(in(riders, 1, 4) && in(cold, 0, 20));
            state(now.chairs.size() < 14);
            save();
            State.Chair c = new State.Chair();
            c.span = span;
            c.riders = riders;
            c.cold = cold;
            c.child = child;
            now.chairs.add(c);
            return now.chairs.size() - 1;
        }

        long addTeam(int span, int tired) {
            index(span(span));
            argument(in(tired, 0, 30));
            state(now.teams.size() < 4);
            save();
            State.Team t = new State.Team();
            t.span = span;
            t.tired = tired;
            now.teams.add(t);
            return now.teams.size() - 1;
        }

        long setWay(int span, int minutes) {
            index(span(span) && span(span + 1));
            argument(in(minutes, 1, 20));
            save();
            return now.ways.set(span, minutes);
        }

        long setCold(int chair, int cold) {
            index(chairs(chair));
            argument(in(cold, 0, 20));
            state(now.chairs.get(chair).state != 2);
            save();
            int was = now.chairs.get(chair).cold;
            now.chairs.get(chair).cold = cold;
            return was;
        }

        long callOff(int team) {
            index(teams(team));
            save();
            State.Team t = now.teams.get(team);
            int had = t.chair;
            if (had >= 0) {
                now.chairs.get(had).state = 0;
                now.chairs.get(had).team = -1;
            }
            t.chair = -1;
            t.left = 0;
            t.doing = 'i';
            return had;
        }

        long pass(int minutes) {
            argument(in(minutes, 1, 500));
            state(now.minute + minutes <= 5000);
            save();
            int before = now.journal.size();
            for (int i = 0; i < minutes; i++) {
                now.tick();
            }
            return now.journal.size() - before;
        }

        long tell() {
            save();
            int told = 0;
            for (int i = 0; i < now.chairs.size(); i++) {
                State.Chair c = now.chairs.get(i);
                if (c.state != 2) {
                    c.noted = now.minuteOf(i);
                    told += c.noted >= 0 ? 1 : 0;
                }
            }
            return told;
        }

        long bestSpan() {
            if (now.teams.size() == 4) {
                return -1;
            }
            int[] minutes = new int[now.spans()];
            for (int k = 0; k < minutes.length; k++) {
                State s = now.copy();
                State.Team t = new State.Team();
                t.span = k;
                s.teams.add(t);
                int m = s.minutesToAll();
                minutes[k] = m < 0 ? 9999 : m;
            }
            int least = IntStream.of(minutes).min().orElse(9999);
            return least == 9999 ? -1 : IntStream.range(0, minutes.length).filter(k -> minutes[k] == least).min().getAsInt();
        }

        double meanCold() {
            return now.chairs.stream().filter(c -> c.state != 2).mapToInt(c -> c.cold).average().orElse(0.0);
        }

        long append(int value) {
            argument(in(value, 0, 127));
            state(text.length() < 100);
            text.append((char) value);
            return text.length();
        }

        long clearText() {
            int had = text.length();
            text.setLength(0);
            return had;
        }

        private boolean canStand(String start) {
            String plain = start.replaceAll("\\+[0-9]?", "");
            return START.matcher(start).matches() && plain.chars().filter(c -> c == '|').count() <= 6
                && plain.chars().filter(Character::isDigit).count() <= 14;
        }

        long parse() {
            String all = text.toString();
            for (int i = 1; i <= all.length(); i++) {
                if (!canStand(all.substring(0, i))) {
                    return -10 - (i - 1);
                }
            }
            if (!WHOLE.matcher(all).matches() || !all.contains("|")) {
                return -10 - all.length();
            }
            save();
            now = new State();
            String[] spans = all.split("\\|", -1);
            now.ways.clear();
            for (int k = 0; k < spans.length; k++) {
                if (k > 0) {
                    now.ways.add(4);
                }
                for (String one : spans[k].split("(?<!\\+|^)(?=[1-4])")) {
                    if (!one.isEmpty()) {
                        State.Chair c = new State.Chair();
                        c.span = k;
                        c.riders = one.charAt(0) - '0';
                        c.child = one.contains("c");
                        c.cold = one.contains("+") ? one.charAt(one.length() - 1) - '0' : 0;
                        now.chairs.add(c);
                    }
                }
            }
            return now.chairs.size();
        }

        long undo() {
            state(!saved.isEmpty());
            now = saved.pop();
            return saved.size();
        }

        long digest() {
            List<Integer> all = new ArrayList<>();
            all.add(text.length());
            IntStream.range(0, 12).forEach(w -> all.add(now.value(w)));
            all.addAll(now.ways);
            for (int i = 0; i < now.chairs.size(); i++) {
                for (int w = 0; w < 9; w++) {
                    all.add(now.chairFact(i, w));
                }
                all.add(now.minuteOf(i));
            }
            for (int i = 0; i < now.teams.size(); i++) {
                for (int w = 0; w < 8; w++) {
                    all.add(now.teamFact(i, w));
                }
            }
            all.addAll(now.journal);
            all.add(now.minutesToAll());
            all.add(saved.size());
            long h = 3517;
            for (int v : all) {
                h = 31 * h + v;
            }
            return h;
        }

        long ask(int what, int a, int b) {
            switch (what) {
                case 0: index(chairs(a)); argument(in(b, 0, 8)); return now.chairFact(a, b);
                case 1: index(teams(a)); argument(in(b, 0, 7)); return now.teamFact(a, b);
                case 2: argument(in(a, 0, 11)); return now.value(a);
                case 3: index(span(a) && span(b)); return now.way(a, b);
                case 4: index(chairs(a) && teams(b)); return now.work(now.chairs.get(a), now.teams.get(b));
                case 5: index(a >= 0); return a < now.journal.size() ? now.journal.get(a) : -1;
                case 6: index(chairs(a)); return now.minuteOf(a);
                case 7: return now.minutesToAll();
                case 8: return bestSpan();
                case 9: index(span(a)); return now.chosen(a);
                default: return Double.doubleToLongBits(meanCold());
            }
        }
    }

    /** The same numbers in every run of this test. */
    private static final class Numbers {
        long seed;

        Numbers(long start) {
            seed = start * 0x9E3779B97F4A7C15L + 1;
        }

        int below(int bound) {
            seed = seed * 6364136223846793005L + 1442695040888963407L;
            return (int) ((seed >>> 33) % bound);
        }

        /** Mostly from low to high, now and then just outside or far off. */
        int about(int low, int high) {
            int kind = below(40);
            if (kind == 0) {
                return low - 1;
            }
            if (kind == 1) {
                return high + 1;
            }
            if (kind == 2) {
                return below(2) == 0 ? Integer.MIN_VALUE : Integer.MAX_VALUE;
            }
            return low + below(Math.max(1, high - low + 1));
        }
    }

    private interface Call {
        long answer();
    }

    private static String answer(Call call) {
        try {
            return String.valueOf(call.answer());
        } catch (RuntimeException e) {
            return "throws." + e.getClass().getSimpleName();
        }
    }

    private static int wrong = 0;
    private static int compared = 0;

    private static void both(String what, Call got, Call due) {
        String g = answer(got);
        String d = answer(due);
        compared++;
        if (!g.equals(d)) {
            wrong++;
            System.out.println(what + " answered " + g + ", due is " + d);
        }
    }

    private static long ask(LiftDrill x, int what, int a, int b) {
        switch (what) {
            case 0: return x.chair(a, b);
            case 1: return x.team(a, b);
            case 2: return x.value(a);
            case 3: return x.way(a, b);
            case 4: return x.work(a, b);
            case 5: return x.journal(a);
            case 6: return x.minuteOf(a);
            case 7: return x.minutesToAll();
            case 8: return x.bestSpan();
            case 9: return x.chosen(a);
            default: return Double.doubleToLongBits(x.meanCold());
        }
    }

    private static void question(String at, LiftDrill x, Model m, Numbers n) {
        int what = n.below(11);
        int[] highA = {m.now.chairs.size() - 1, m.now.teams.size() - 1, 11, m.now.spans() - 1, m.now.chairs.size() - 1,
            m.now.journal.size(), m.now.chairs.size() - 1, 0, 0, m.now.spans() - 1, 0};
        int[] highB = {8, 7, 0, m.now.spans() - 1, m.now.teams.size() - 1, 0, 0, 0, 0, 0, 0};
        int a = n.about(0, highA[what]);
        int b = n.about(0, highB[what]);
        both(at + "question " + what + " (" + a + ", " + b + ")", () -> ask(x, what, a, b), () -> m.ask(what, a, b));
    }

    private static String someText(Numbers n) {
        StringBuilder text = new StringBuilder();
        int parts = n.below(n.below(4) == 0 ? 40 : 16);
        for (int i = 0; i < parts; i++) {
            int kind = n.below(9);
            if (kind < 3) {
                text.append('|');
            } else {
                text.append((char) ('1' + n.below(4)));
                text.append(n.below(2) == 0 ? "c" : "");
                if (n.below(2) == 0) {
                    text.append('+').append((char) ('0' + n.below(10)));
                }
            }
        }
        if (n.below(3) == 0) {
            int at = n.below(text.length() + 1);
            text.insert(at, "|c+015 /:9".charAt(n.below(10)));
        }
        text.setLength(Math.min(text.length(), 100));
        return text.toString();
    }

    private static void readText(String at, LiftDrill x, Model m, Numbers n) {
        both(at + "clearText()", () -> x.clearText(), () -> m.clearText());
        String text = someText(n);
        for (char c : text.toCharArray()) {
            x.append(c);
            m.append(c);
        }
        both(at + "parse() of " + text, () -> x.parse(), () -> m.parse());
    }

    private static void change(String at, LiftDrill x, Model m, Numbers n) {
        int kind = n.below(30);
        int span = n.about(0, m.now.spans() - 1);
        int chair = n.about(0, m.now.chairs.size() - 1);
        int team = n.about(0, m.now.teams.size() - 1);
        if (kind < 6) {
            int riders = n.about(1, 4);
            int cold = n.about(0, 20);
            boolean child = n.below(2) == 0;
            both(at + "addChair(" + span + ", " + riders + ", " + cold + ", " + child + ")",
                () -> x.addChair(span, riders, cold, child), () -> m.addChair(span, riders, cold, child));
        } else if (kind < 8) {
            int tired = n.about(0, 30);
            both(at + "addTeam(" + span + ", " + tired + ")", () -> x.addTeam(span, tired), () -> m.addTeam(span, tired));
        } else if (kind < 11) {
            int minutes = n.about(1, 20);
            both(at + "setWay(" + span + ", " + minutes + ")", () -> x.setWay(span, minutes), () -> m.setWay(span, minutes));
        } else if (kind < 13) {
            int cold = n.about(0, 20);
            both(at + "setCold(" + chair + ", " + cold + ")", () -> x.setCold(chair, cold), () -> m.setCold(chair, cold));
        } else if (kind < 16) {
            both(at + "callOff(" + team + ")", () -> x.callOff(team), () -> m.callOff(team));
        } else if (kind < 23) {
            int minutes = n.below(60) == 0 ? n.about(1, 500) : n.about(1, n.below(4) == 0 ? 40 : 8);
            both(at + "pass(" + minutes + ")", () -> x.pass(minutes), () -> m.pass(minutes));
        } else if (kind < 26) {
            both(at + "tell()", () -> x.tell(), () -> m.tell());
        } else if (kind < 28) {
            both(at + "undo()", () -> x.undo(), () -> m.undo());
        } else if (kind < 29 && n.below(6) == 0) {
            readText(at, x, m, n);
        } else {
            int value = n.about(0, 127);
            both(at + "append(" + value + ")", () -> x.append(value), () -> m.append(value));
        }
    }

    private static void run(int number) {
        Numbers n = new Numbers(number);
        LiftDrill x = new LiftDrill();
        Model m = new Model();
        if (n.below(2) == 0) {
            readText("run " + number + ", ", x, m, n);
        }
        for (int i = 0; i < CALLS && wrong < 10; i++) {
            String at = "run " + number + ", step " + i + ": ";
            if (n.below(3) == 0) {
                question(at, x, m, n);
            } else {
                change(at, x, m, n);
                both(at + "digest()", () -> x.digest(), () -> m.digest());
            }
        }
    }

    private static void texts(int number) {
        Numbers n = new Numbers(-number);
        LiftDrill x = new LiftDrill();
        Model m = new Model();
        readText("text " + number + ", ", x, m, n);
        both("text " + number + ", digest()", () -> x.digest(), () -> m.digest());
    }

    public static void main(String[] args) {
        for (int i = 0; i < RUNS && wrong < 10; i++) {
            run(i);
        }
        for (int i = 1; i <= 20000 && wrong < 10; i++) {
            texts(i);
        }
        System.out.println(compared + " answers compared, " + wrong + " wrong");
        if (wrong != 0) {
            System.exit(1);
        }
    }
}
