/** A drill for a chair lift that stands still; ../shared/DOC.md says what it promises. */
public final class LiftDrill {
    public static final int NONE = -1;

    private static final int FIRST_SPANS = 3;
    private static final int MIN_SPANS = 2;
    private static final int MAX_SPANS = 7;
    private static final int MAX_CHAIRS = 14;
    private static final int MAX_TEAMS = 4;
    private static final int FIRST_WAY = 4;
    private static final int MAX_WAY = 20;
    private static final int MAX_RIDERS = 4;
    private static final int MAX_COLD = 20;
    private static final int MAX_TIREDNESS = 30;
    private static final int MAX_PASS = 500;
    private static final int MAX_MINUTE = 5000;
    private static final int MAX_AHEAD = 1000;
    private static final int MAX_TEXT = 100;
    private static final int MAX_BYTE = 127;
    private static final int MAX_SAVED = 4;

    private static final int CHILD_RANK = 3;
    private static final int COLD_PERIOD = 10;
    private static final int TIRED = 10;
    private static final int REST_MINUTES = 5;
    private static final int REST_GAIN = 6;

    private static final int CHAIR_FACTS = 9;
    private static final int TEAM_FACTS = 8;
    private static final int LINE_FACTS = 12;

    private static final int WAITS = 0;
    private static final int TAKEN = 1;
    private static final int EMPTY = 2;

    private static final int IDLE = 0;
    private static final int WALKS = 1;
    private static final int BRINGS_DOWN = 2;
    private static final int RESTS = 3;

    private static final int BEHIND_ALL = 0;
    private static final int BEHIND_RIDERS = 1;
    private static final int BEHIND_CHILD = 2;
    private static final int BEHIND_PLUS = 3;
    private static final int SYNTAX_ERROR = -10;

    private static final long DIGEST_START = 3517L;
    private static final long DIGEST_FACTOR = 31L;

    private final Line line;
    /** Made once and filled anew by each what-if question and each reading, so that no call makes rows. */
    private final Line draft;
    private final Line[] saved;
    private int savedCount;
    private int savedEnd;
    private final int[] text;
    private int textLength;

    public LiftDrill() {
        line = new Line();
        line.reset(FIRST_SPANS);
        draft = new Line();
        saved = new Line[MAX_SAVED];
        for (int i = 0; i < saved.length; i++) {
            saved[i] = new Line();
        }
        text = new int[MAX_TEXT];
    }

    // ---- line

    public int addChair(int span, int riders, int cold, boolean child)
            throws IndexOutOfBoundsException, IllegalArgumentException, IllegalStateException {
        if (!line.hasSpan(span)) {
            throw new IndexOutOfBoundsException("no such span");
        }
        if (riders < 1 || riders > MAX_RIDERS || cold < 0 || cold > MAX_COLD) {
            throw new IllegalArgumentException("riders or cold out of range");
        }
        if (line.chairCount >= MAX_CHAIRS) {
            throw new IllegalStateException("no more chairs");
        }
        save();
        return line.hangChair(span, riders, cold, child);
    }

    public int addTeam(int span, int tiredness)
            throws IndexOutOfBoundsException, IllegalArgumentException, IllegalStateException {
        if (!line.hasSpan(span)) {
            throw new IndexOutOfBoundsException("no such span");
        }
        if (tiredness < 0 || tiredness > MAX_TIREDNESS) {
            throw new IllegalArgumentException("tiredness out of range");
        }
        if (line.teamCount >= MAX_TEAMS) {
            throw new IllegalStateException("no more teams");
        }
        save();
        return line.sendTeam(span, tiredness);
    }

    public int setWay(int span, int minutes) throws IndexOutOfBoundsException, IllegalArgumentException {
        if (!line.hasWay(span)) {
            throw new IndexOutOfBoundsException("no such span, or the last one");
        }
        if (minutes < 1 || minutes > MAX_WAY) {
            throw new IllegalArgumentException("minutes out of range");
        }
        save();
        int previous = line.wayBehind(span);
        line.changeWay(span, minutes);
        return previous;
    }

    public int setCold(int chair, int cold)
            throws IndexOutOfBoundsException, IllegalArgumentException, IllegalStateException {
        Chair found = line.chairAt(chair);
        if (found == null) {
            throw new IndexOutOfBoundsException("no such chair");
        }
        if (cold < 0 || cold > MAX_COLD) {
            throw new IllegalArgumentException("cold out of range");
        }
        if (found.state == EMPTY) {
            throw new IllegalStateException("the chair is empty");
        }
        save();
        int previous = found.cold;
        found.cold = cold;
        return previous;
    }

    public int callOff(int team) throws IndexOutOfBoundsException {
        Team found = line.teamAt(team);
        if (found == null) {
            throw new IndexOutOfBoundsException("no such team");
        }
        save();
        int had = found.chair;
        Chair chair = line.chairAt(had);
        if (chair != null) {
            chair.waitAgain();
        }
        found.beIdle();
        return had;
    }

    public int pass(int minutes) throws IllegalArgumentException, IllegalStateException {
        if (minutes < 1 || minutes > MAX_PASS) {
            throw new IllegalArgumentException("minutes out of range");
        }
        if (line.minute + minutes > MAX_MINUTE) {
            throw new IllegalStateException("the minute would be too great");
        }
        save();
        int before = line.emptyCount;
        for (int i = 0; i < minutes; i++) {
            line.passMinute();
        }
        return line.emptyCount - before;
    }

    public int tell() {
        save();
        draft.copyFrom(line);
        draft.runOut();
        int told = 0;
        for (int i = 0; i < line.chairCount; i++) {
            Chair chair = line.chairAt(i);
            Chair ahead = draft.chairAt(i);
            if (chair != null && ahead != null && chair.state != EMPTY) {
                chair.noted = ahead.minute;
                told += ahead.minute == NONE ? 0 : 1;
            }
        }
        return told;
    }

    public int chair(int chair, int what) throws IndexOutOfBoundsException, IllegalArgumentException {
        Chair found = line.chairAt(chair);
        if (found == null) {
            throw new IndexOutOfBoundsException("no such chair");
        }
        if (what < 0 || what >= CHAIR_FACTS) {
            throw new IllegalArgumentException("what is out of range");
        }
        return found.fact(what);
    }

    public int team(int team, int what) throws IndexOutOfBoundsException, IllegalArgumentException {
        Team found = line.teamAt(team);
        if (found == null) {
            throw new IndexOutOfBoundsException("no such team");
        }
        if (what < 0 || what >= TEAM_FACTS) {
            throw new IllegalArgumentException("what is out of range");
        }
        return found.fact(what);
    }

    public int value(int what) throws IllegalArgumentException {
        if (what < 0 || what >= LINE_FACTS) {
            throw new IllegalArgumentException("what is out of range");
        }
        return line.fact(what);
    }

    public int way(int from, int to) throws IndexOutOfBoundsException {
        if (!line.hasSpan(from) || !line.hasSpan(to)) {
            throw new IndexOutOfBoundsException("no such span");
        }
        return line.wayBetween(from, to);
    }

    public int work(int chair, int team) throws IndexOutOfBoundsException {
        Chair foundChair = line.chairAt(chair);
        Team foundTeam = line.teamAt(team);
        if (foundChair == null || foundTeam == null) {
            throw new IndexOutOfBoundsException("no such chair or team");
        }
        return line.workOf(foundChair, team, foundTeam.tiredness);
    }

    public int journal(int index) throws IndexOutOfBoundsException {
        if (index < 0) {
            throw new IndexOutOfBoundsException("index is negative");
        }
        return line.journalAt(index);
    }

    // ---- what if

    public int minuteOf(int chair) throws IndexOutOfBoundsException {
        Chair found = line.chairAt(chair);
        if (found == null) {
            throw new IndexOutOfBoundsException("no such chair");
        }
        if (found.state == EMPTY) {
            return found.minute;
        }
        draft.copyFrom(line);
        draft.runOut();
        Chair ahead = draft.chairAt(chair);
        return ahead == null ? NONE : ahead.minute;
    }

    public int minutesToAll() {
        draft.copyFrom(line);
        return draft.runOut();
    }

    public int bestSpan() {
        if (line.teamCount >= MAX_TEAMS) {
            return NONE;
        }
        int best = NONE;
        int least = MAX_AHEAD + 1;
        for (int span = 0; span < line.spans; span++) {
            draft.copyFrom(line);
            draft.sendTeam(span, 0);
            int minutes = draft.runOut();
            if (minutes != NONE && minutes < least) {
                best = span;
                least = minutes;
            }
        }
        return best;
    }

    public int chosen(int span) throws IndexOutOfBoundsException {
        if (!line.hasSpan(span)) {
            throw new IndexOutOfBoundsException("no such span");
        }
        return line.choiceFrom(span);
    }

    public double meanCold() {
        int sum = 0;
        int count = 0;
        for (int i = 0; i < line.chairCount; i++) {
            Chair chair = line.chairAt(i);
            if (chair != null && chair.state != EMPTY) {
                sum += chair.cold;
                count++;
            }
        }
        return count == 0 ? 0.0 : (double) sum / (double) count;
    }

    // ---- text

    public int append(int value) throws IllegalArgumentException, IllegalStateException {
        if (value < 0 || value > MAX_BYTE) {
            throw new IllegalArgumentException("value out of range");
        }
        if (textLength < 0 || textLength >= text.length) {
            throw new IllegalStateException("the text is full");
        }
        text[textLength] = value;
        textLength++;
        return textLength;
    }

    public int clearText() {
        int had = textLength;
        textLength = 0;
        return had;
    }

    public int parse() {
        int error = readText(draft);
        if (error != NONE) {
            return SYNTAX_ERROR - error;
        }
        save();
        line.copyFrom(draft);
        return line.chairCount;
    }

    // ---- state

    public int undo() throws IllegalStateException {
        if (savedCount == 0) {
            throw new IllegalStateException("no saved state");
        }
        savedEnd = (savedEnd + MAX_SAVED - 1) % MAX_SAVED;
        savedCount--;
        Line last = savedAt(savedEnd);
        if (last != null) {
            line.copyFrom(last);
        }
        return savedCount;
    }

    public long digest() {
        // One look ahead serves every chair and minutesToAll().
        draft.copyFrom(line);
        int toAll = draft.runOut();
        long h = mix(DIGEST_START, textLength);
        for (int what = 0; what < LINE_FACTS; what++) {
            h = mix(h, line.fact(what));
        }
        for (int span = 0; span < line.spans - 1; span++) {
            h = mix(h, line.wayBehind(span));
        }
        h = mixChairs(h);
        h = mixTeams(h);
        for (int i = 0; i < line.emptyCount; i++) {
            h = mix(h, line.journalAt(i));
        }
        h = mix(h, toAll);
        return mix(h, savedCount);
    }

    private static long mix(long h, int v) {
        return DIGEST_FACTOR * h + v;
    }

    private long mixChairs(long start) {
        long h = start;
        for (int i = 0; i < line.chairCount; i++) {
            Chair chair = line.chairAt(i);
            Chair ahead = draft.chairAt(i);
            if (chair != null && ahead != null) {
                for (int what = 0; what < CHAIR_FACTS; what++) {
                    h = mix(h, chair.fact(what));
                }
                h = mix(h, ahead.minute);
            }
        }
        return h;
    }

    private long mixTeams(long start) {
        long h = start;
        for (int i = 0; i < line.teamCount; i++) {
            Team team = line.teamAt(i);
            if (team != null) {
                for (int what = 0; what < TEAM_FACTS; what++) {
                    h = mix(h, team.fact(what));
                }
            }
        }
        return h;
    }

    private void save() {
        Line slot = savedAt(savedEnd);
        if (slot != null) {
            slot.copyFrom(line);
        }
        savedEnd = (savedEnd + 1) % MAX_SAVED;
        savedCount = Math.min(MAX_SAVED, savedCount + 1);
    }

    private Line savedAt(int index) {
        return index >= 0 && index < saved.length ? saved[index] : null;
    }

    /** Fills a line from the text; answers the syntax error position, NONE without an error. */
    private int readText(Line into) {
        into.reset(1);
        int place = BEHIND_ALL;
        for (int i = 0; i < textLength && i < text.length; i++) {
            place = readByte(into, text[i], place);
            if (place == NONE) {
                return i;
            }
        }
        return place == BEHIND_PLUS || into.spans < MIN_SPANS ? textLength : NONE;
    }

    /** Answers the place behind the byte; NONE if the byte cannot stand at its place. */
    private static int readByte(Line into, int sign, int place) {
        Chair last = into.chairAt(into.chairCount - 1);
        if (place == BEHIND_PLUS) {
            if (last == null || sign < '0' || sign > '9') {
                return NONE;
            }
            last.cold = sign - '0';
            return BEHIND_ALL;
        }
        if (sign == '+') {
            return place == BEHIND_RIDERS || place == BEHIND_CHILD ? BEHIND_PLUS : NONE;
        }
        if (sign == 'c') {
            if (last == null || place != BEHIND_RIDERS) {
                return NONE;
            }
            last.child = true;
            return BEHIND_CHILD;
        }
        if (sign == '|') {
            if (into.spans >= MAX_SPANS) {
                return NONE;
            }
            into.spans++;
            return BEHIND_ALL;
        }
        if (sign < '1' || sign > '4' || into.chairCount >= MAX_CHAIRS) {
            return NONE;
        }
        into.hangChair(into.spans - 1, sign - '0', 0, false);
        return BEHIND_RIDERS;
    }

    private static final class Chair {
        int span;
        int riders;
        int cold;
        boolean child;
        int state;
        int team;
        int minute;
        int noted;

        void hang(int overSpan, int withRiders, int withCold, boolean withChild) {
            span = overSpan;
            riders = withRiders;
            cold = withCold;
            child = withChild;
            minute = NONE;
            noted = NONE;
            waitAgain();
        }

        void waitAgain() {
            state = WAITS;
            team = NONE;
        }

        void copyFrom(Chair other) {
            span = other.span;
            riders = other.riders;
            cold = other.cold;
            child = other.child;
            state = other.state;
            team = other.team;
            minute = other.minute;
            noted = other.noted;
        }

        int rank() {
            return child ? cold + CHILD_RANK : cold;
        }

        int fact(int what) {
            switch (what) {
                case 0: return span;
                case 1: return riders;
                case 2: return cold;
                case 3: return child ? 1 : 0;
                case 4: return rank();
                case 5: return state;
                case 6: return team;
                case 7: return minute;
                default: return noted;
            }
        }
    }

    private static final class Team {
        int span;
        int tiredness;
        int state;
        int left;
        int chair;
        int emptied;
        int ridersDown;
        int walked;

        void stand(int atSpan, int withTiredness) {
            span = atSpan;
            tiredness = withTiredness;
            emptied = 0;
            ridersDown = 0;
            walked = 0;
            beIdle();
        }

        void beIdle() {
            state = IDLE;
            left = 0;
            chair = NONE;
        }

        void copyFrom(Team other) {
            span = other.span;
            tiredness = other.tiredness;
            state = other.state;
            left = other.left;
            chair = other.chair;
            emptied = other.emptied;
            ridersDown = other.ridersDown;
            walked = other.walked;
        }

        int fact(int what) {
            switch (what) {
                case 0: return span;
                case 1: return tiredness;
                case 2: return state;
                case 3: return left;
                case 4: return chair;
                case 5: return emptied;
                case 6: return ridersDown;
                default: return walked;
            }
        }
    }

    /** All that undo restores: the spans, the chairs, the teams, the minute, the promises and the journal. */
    private static final class Line {
        int spans;
        int minute;
        int chairCount;
        int teamCount;
        /** Also the length of the journal: a chair that has been emptied stays empty. */
        int emptyCount;
        int kept;
        int broken;
        final int[] ways;
        final Chair[] chairs;
        final Team[] teams;
        final int[] emptied;

        Line() {
            ways = new int[MAX_SPANS - 1];
            chairs = new Chair[MAX_CHAIRS];
            for (int i = 0; i < chairs.length; i++) {
                chairs[i] = new Chair();
            }
            teams = new Team[MAX_TEAMS];
            for (int i = 0; i < teams.length; i++) {
                teams[i] = new Team();
            }
            emptied = new int[MAX_CHAIRS];
        }

        void reset(int spanCount) {
            spans = spanCount;
            minute = 0;
            chairCount = 0;
            teamCount = 0;
            emptyCount = 0;
            kept = 0;
            broken = 0;
            for (int i = 0; i < ways.length; i++) {
                ways[i] = FIRST_WAY;
            }
        }

        void copyFrom(Line other) {
            spans = other.spans;
            minute = other.minute;
            chairCount = other.chairCount;
            teamCount = other.teamCount;
            emptyCount = other.emptyCount;
            kept = other.kept;
            broken = other.broken;
            for (int i = 0; i < ways.length && i < other.ways.length; i++) {
                ways[i] = other.ways[i];
            }
            for (int i = 0; i < emptied.length && i < other.emptied.length; i++) {
                emptied[i] = other.emptied[i];
            }
            for (int i = 0; i < chairCount; i++) {
                Chair chair = chairAt(i);
                Chair theirs = other.chairAt(i);
                if (chair != null && theirs != null) {
                    chair.copyFrom(theirs);
                }
            }
            for (int i = 0; i < teamCount; i++) {
                Team team = teamAt(i);
                Team theirs = other.teamAt(i);
                if (team != null && theirs != null) {
                    team.copyFrom(theirs);
                }
            }
        }

        boolean hasSpan(int span) {
            return span >= 0 && span < spans;
        }

        boolean hasWay(int span) {
            return span >= 0 && span < spans - 1;
        }

        /** The chair of this number; null if there is none. */
        Chair chairAt(int number) {
            return number >= 0 && number < chairCount && number < chairs.length ? chairs[number] : null;
        }

        /** The team of this number; null if there is none. */
        Team teamAt(int number) {
            return number >= 0 && number < teamCount && number < teams.length ? teams[number] : null;
        }

        int journalAt(int index) {
            return index >= 0 && index < emptyCount && index < emptied.length ? emptied[index] : NONE;
        }

        int wayBehind(int span) {
            return span >= 0 && span < ways.length ? ways[span] : 0;
        }

        void changeWay(int span, int minutes) {
            if (span >= 0 && span < ways.length) {
                ways[span] = minutes;
            }
        }

        int wayBetween(int from, int to) {
            int sum = 0;
            int end = Math.max(from, to);
            for (int span = Math.min(from, to); span < end; span++) {
                sum += wayBehind(span);
            }
            return sum;
        }

        int hangChair(int span, int riders, int cold, boolean child) {
            if (chairCount >= chairs.length) {
                return NONE;
            }
            chairCount++;
            Chair chair = chairAt(chairCount - 1);
            if (chair != null) {
                chair.hang(span, riders, cold, child);
            }
            return chairCount - 1;
        }

        int sendTeam(int span, int tiredness) {
            if (teamCount >= teams.length) {
                return NONE;
            }
            teamCount++;
            Team team = teamAt(teamCount - 1);
            if (team != null) {
                team.stand(span, tiredness);
            }
            return teamCount - 1;
        }

        /** Lets minutes pass until all chairs are empty; answers how many, NONE if the look ahead is too short. */
        int runOut() {
            int passed = 0;
            if (teamCount > 0) {
                for (int i = 0; i < MAX_AHEAD && emptyCount < chairCount; i++) {
                    passMinute();
                    passed++;
                }
            }
            return emptyCount < chairCount ? NONE : passed;
        }

        void passMinute() {
            if ((minute + 1) % COLD_PERIOD == 0) {
                growColder();
            }
            for (int i = 0; i < teamCount; i++) {
                goOn(i);
            }
            for (int i = 0; i < teamCount; i++) {
                takeChair(i);
            }
            minute++;
        }

        void growColder() {
            for (int i = 0; i < chairCount; i++) {
                Chair chair = chairAt(i);
                if (chair != null && chair.state != EMPTY) {
                    chair.cold = Math.min(MAX_COLD, chair.cold + 1);
                }
            }
        }

        void goOn(int number) {
            Team team = teamAt(number);
            if (team == null || team.state == IDLE) {
                return;
            }
            if (team.state == WALKS) {
                team.walked++;
            }
            team.left--;
            if (team.left > 0) {
                return;
            }
            if (team.state == RESTS) {
                team.beIdle();
                team.tiredness = Math.max(0, team.tiredness - REST_GAIN);
                return;
            }
            Chair chair = chairAt(team.chair);
            if (chair == null) {
                return;
            }
            if (team.state == WALKS) {
                bringDown(number, team, chair);
            } else {
                finish(team, chair);
            }
        }

        void takeChair(int number) {
            Team team = teamAt(number);
            if (team == null || team.state != IDLE) {
                return;
            }
            int choice = choiceFrom(team.span);
            Chair chair = chairAt(choice);
            if (chair == null) {
                return;
            }
            chair.state = TAKEN;
            chair.team = number;
            team.chair = choice;
            int way = wayBetween(team.span, chair.span);
            if (way == 0) {
                bringDown(number, team, chair);
            } else {
                team.state = WALKS;
                team.left = way;
            }
        }

        void bringDown(int number, Team team, Chair chair) {
            team.span = chair.span;
            team.left = workOf(chair, number, team.tiredness);
            team.state = BRINGS_DOWN;
        }

        void finish(Team team, Chair chair) {
            int now = minute + 1;
            if (chair.noted != NONE && now <= chair.noted) {
                kept++;
            }
            if (chair.noted != NONE && now > chair.noted) {
                broken++;
            }
            chair.state = EMPTY;
            chair.minute = now;
            if (emptyCount >= 0 && emptyCount < emptied.length) {
                emptied[emptyCount] = team.chair;
            }
            emptyCount++;
            team.emptied++;
            team.ridersDown += chair.riders;
            team.tiredness = Math.min(MAX_TIREDNESS, team.tiredness + chair.riders);
            team.beIdle();
            if (team.tiredness >= TIRED) {
                team.state = RESTS;
                team.left = REST_MINUTES;
            }
        }

        int workOf(Chair chair, int teamNumber, int tiredness) {
            int minutes = 2 + chair.riders * (1 + tiredness / 5);
            for (int i = 0; i < teamCount; i++) {
                Team other = teamAt(i);
                if (other != null && i != teamNumber && other.state == BRINGS_DOWN && other.span == chair.span) {
                    return Math.max(1, minutes - 1);
                }
            }
            return minutes;
        }

        /** The chair that an idle team at a span takes; NONE if no chair waits. */
        int choiceFrom(int span) {
            int best = NONE;
            int bestRank = 0;
            int bestWay = 0;
            for (int i = 0; i < chairCount; i++) {
                Chair chair = chairAt(i);
                if (chair != null && chair.state == WAITS) {
                    int rank = chair.rank();
                    int way = wayBetween(span, chair.span);
                    if (best == NONE || rank > bestRank || rank == bestRank && way < bestWay) {
                        best = i;
                        bestRank = rank;
                        bestWay = way;
                    }
                }
            }
            return best;
        }

        int fact(int what) {
            switch (what) {
                case 0: return spans;
                case 1: return chairCount;
                case 2: return teamCount;
                case 3: return minute;
                case 4: return chairsIn(WAITS);
                case 5: return chairsIn(TAKEN);
                case 6: return chairsIn(EMPTY);
                case 7: return ridersIn(WAITS) + ridersIn(TAKEN);
                case 8: return ridersIn(EMPTY);
                case 9: return kept;
                case 10: return broken;
                default: return greatestRank();
            }
        }

        int chairsIn(int state) {
            int count = 0;
            for (int i = 0; i < chairCount; i++) {
                Chair chair = chairAt(i);
                if (chair != null && chair.state == state) {
                    count++;
                }
            }
            return count;
        }

        int ridersIn(int state) {
            int sum = 0;
            for (int i = 0; i < chairCount; i++) {
                Chair chair = chairAt(i);
                if (chair != null && chair.state == state) {
                    sum += chair.riders;
                }
            }
            return sum;
        }

        int greatestRank() {
            int greatest = NONE;
            for (int i = 0; i < chairCount; i++) {
                Chair chair = chairAt(i);
                if (chair != null && chair.state == WAITS) {
                    greatest = Math.max(greatest, chair.rank());
                }
            }
            return greatest;
        }
    }
}
