import java.util.Arrays;

/** Guards at school crossings, as ../shared/DOC.md promises them. */
public final class CrossingPosts {
    public static final int NONE = -1;

    private static final int LAST_DAY = 3000;
    private static final int SESSIONS_A_DAY = 2;
    private static final int DAYS_A_WEEK = 7;
    private static final int SCHOOL_DAYS_A_WEEK = 5;
    private static final int LAST_PLACE = 99;
    private static final int ALL_NEEDS = 1023;
    private static final int MOST_HOLIDAYS = 6;
    private static final int MOST_POSTS = 8;
    private static final int MOST_GUARDS = 10;
    private static final int MOST_DAYS = 60;
    private static final int MOST_SAVED = 4;
    private static final int MOST_BYTES = 90;
    private static final int LAST_BYTE = 127;
    private static final int LEAST_BYTES_OF_ORDER = 3;
    private static final int MOST_ORDERS = MOST_BYTES / LEAST_BYTES_OF_ORDER;

    private static final int LAST_ABOUT_POST = 8;
    private static final int LAST_ABOUT_GUARD = 10;
    private static final int LAST_VALUE = 10;

    private static final int SESSIONS_TO_COMPLAIN = 10;
    private static final int SESSIONS_OF_PRIORITY = 20;
    private static final int HIGHEST_STEP = 5;
    private static final int WORK_OF_STEP = 20;
    private static final int PAY = 10;
    private static final int PAY_OF_STEP = 2;
    private static final int DISTANCE_PAID = 5;
    private static final int REACH_OF_ONE_MORE = 20;

    private static final int ALL_SICK = 1;
    private static final int ALL_STAND = 2;
    private static final int TOO_FAR = 3;

    private final State state = new State();
    /** A copy of the state for what-if questions. */
    private final State trial = new State();
    /** Made once and used again: a run may save often. */
    private final State[] saved = new State[MOST_SAVED];
    private int savedCount;
    private final Roster roster = new Roster();
    private final Replacements replacements = new Replacements();
    private final Orders orders = new Orders();

    public CrossingPosts() {
        for (int i = 0; i < MOST_SAVED; i++) {
            saved[i] = new State();
        }
    }

    // ---- calendar, posts, guards

    public int addHoliday(int first, int last) throws IllegalArgumentException, IllegalStateException {
        if (!isDay(first) || !isWithin(last, first, LAST_DAY)) {
            throw new IllegalArgumentException("a day is out of range");
        }
        if (state.holidayCount >= MOST_HOLIDAYS) {
            throw new IllegalStateException("there are 6 holidays");
        }
        save();
        return state.newHoliday(first, last);
    }

    public int addPost(int place, int needs) throws IllegalArgumentException, IllegalStateException {
        if (!isPlace(place) || !isWithin(needs, 0, ALL_NEEDS)) {
            throw new IllegalArgumentException("place or needs are out of range");
        }
        if (state.postCount >= MOST_POSTS) {
            throw new IllegalStateException("there are 8 posts");
        }
        save();
        return state.newPost(place, needs);
    }

    public int setNeeds(int post, int needs) throws IndexOutOfBoundsException, IllegalArgumentException {
        if (!state.hasPost(post)) {
            throw new IndexOutOfBoundsException("there is no such post");
        }
        if (!isWithin(needs, 0, ALL_NEEDS)) {
            throw new IllegalArgumentException("needs are out of range");
        }
        save();
        int previous = state.posts[post].needs;
        state.posts[post].needs = needs;
        return previous;
    }

    public int addGuard(int home, int reach, int post)
            throws IndexOutOfBoundsException, IllegalArgumentException, IllegalStateException {
        if (post != NONE && !state.hasPost(post)) {
            throw new IndexOutOfBoundsException("there is no such post");
        }
        if (!isPlace(home) || !isPlace(reach)) {
            throw new IllegalArgumentException("home or reach is out of range");
        }
        if (state.guardCount >= MOST_GUARDS) {
            throw new IllegalStateException("there are 10 guards");
        }
        if (post != NONE && state.ownerOf(post) != NONE) {
            throw new IllegalStateException("the post is another guard's own");
        }
        save();
        return state.newGuard(home, reach, post);
    }

    public int setPost(int guard, int post) throws IndexOutOfBoundsException, IllegalStateException {
        if (!state.hasGuard(guard) || (post != NONE && !state.hasPost(post))) {
            throw new IndexOutOfBoundsException("there is no such guard or post");
        }
        int previous = state.guards[guard].own;
        if (post != NONE && post != previous && state.ownerOf(post) != NONE) {
            throw new IllegalStateException("the post is another guard's own");
        }
        save();
        state.guards[guard].own = post;
        return previous;
    }

    public int sick(int guard, int days) throws IndexOutOfBoundsException, IllegalArgumentException {
        if (!state.hasGuard(guard)) {
            throw new IndexOutOfBoundsException("there is no such guard");
        }
        if (!isWithin(days, 0, MOST_DAYS)) {
            throw new IllegalArgumentException("days are out of range");
        }
        save();
        return state.reportSick(guard, days);
    }

    public int complain(int post) throws IndexOutOfBoundsException, IllegalStateException {
        if (!state.hasPost(post)) {
            throw new IndexOutOfBoundsException("there is no such post");
        }
        if (!state.allowsComplaint(post)) {
            throw new IllegalStateException("there can be no complaint about the post");
        }
        save();
        return state.fileComplaint(post);
    }

    public int step() throws IllegalStateException {
        if (state.nextDay() > LAST_DAY) {
            throw new IllegalStateException("the day is above 3000");
        }
        save();
        return state.takeNext(roster);
    }

    public int pass(int days) throws IllegalArgumentException, IllegalStateException {
        if (!isWithin(days, 1, MOST_DAYS)) {
            throw new IllegalArgumentException("days are out of range");
        }
        if (!state.allowsDays(days)) {
            throw new IllegalStateException("a day would be above 3000");
        }
        save();
        return state.takeDays(days, roster);
    }

    // ---- values

    public int post(int post, int what) throws IndexOutOfBoundsException, IllegalArgumentException {
        if (!state.hasPost(post)) {
            throw new IndexOutOfBoundsException("there is no such post");
        }
        if (!isWithin(what, 0, LAST_ABOUT_POST)) {
            throw new IllegalArgumentException("what is out of range");
        }
        return state.aboutPost(post, what);
    }

    public int guard(int guard, int what) throws IndexOutOfBoundsException, IllegalArgumentException {
        if (!state.hasGuard(guard)) {
            throw new IndexOutOfBoundsException("there is no such guard");
        }
        if (!isWithin(what, 0, LAST_ABOUT_GUARD)) {
            throw new IllegalArgumentException("what is out of range");
        }
        return state.guards[guard].about(what, state.nextDay());
    }

    public int value(int what) throws IllegalArgumentException {
        if (!isWithin(what, 0, LAST_VALUE)) {
            throw new IllegalArgumentException("what is out of range");
        }
        return state.about(what);
    }

    public int holiday(int holiday, boolean last) throws IndexOutOfBoundsException {
        if (!isWithin(holiday, 0, state.holidayCount - 1)) {
            throw new IndexOutOfBoundsException("there is no such holiday");
        }
        return last ? state.lastDays[holiday] : state.firstDays[holiday];
    }

    public int needed(int day, int session) throws IllegalArgumentException {
        if (!isDay(day) || !isSession(session)) {
            throw new IllegalArgumentException("day or session is out of range");
        }
        return state.neededPosts(day, session);
    }

    // ---- what if

    public int open(int day, int session) throws IllegalArgumentException {
        if (!isDay(day) || !isSession(session)) {
            throw new IllegalArgumentException("day or session is out of range");
        }
        roster.draw(state, day, session);
        return roster.openPosts;
    }

    public int standing(int post, int day, int session)
            throws IndexOutOfBoundsException, IllegalArgumentException {
        if (!state.hasPost(post)) {
            throw new IndexOutOfBoundsException("there is no such post");
        }
        if (!isDay(day) || !isSession(session)) {
            throw new IllegalArgumentException("day or session is out of range");
        }
        roster.draw(state, day, session);
        return roster.guardAt[post];
    }

    public int best(int day, int session, int what) throws IllegalArgumentException {
        if (!isDay(day) || !isSession(session) || !isWithin(what, 0, 1)) {
            throw new IllegalArgumentException("day, session or what is out of range");
        }
        roster.drawOwn(state, state.neededPosts(day, session), state.wellGuards(day));
        replacements.find(state, roster);
        return what == 0 ? replacements.leastOpen : replacements.leastSum;
    }

    public int missed(int guard, int day) throws IndexOutOfBoundsException, IllegalArgumentException {
        if (!state.hasGuard(guard)) {
            throw new IndexOutOfBoundsException("there is no such guard");
        }
        if (!isDay(day)) {
            throw new IllegalArgumentException("day is out of range");
        }
        if (state.guards[guard].isSickOn(day)) {
            return 0;
        }
        trial.copyFrom(state);
        trial.guards[guard].wellFrom = day + 1;
        return openOnDay(trial, day) - openOnDay(state, day);
    }

    public int daysToOpen() {
        trial.copyFrom(state);
        int today = trial.nextDay();
        int sessions = SESSIONS_A_DAY * (today + MOST_DAYS + 1) - trial.next;
        for (int i = 0; i < sessions; i++) {
            int day = trial.nextDay();
            if (trial.takeNext(roster) != 0) {
                return day - today;
            }
        }
        return NONE;
    }

    public int bestHome(int day) throws IllegalArgumentException, IllegalStateException {
        if (!isDay(day)) {
            throw new IllegalArgumentException("day is out of range");
        }
        if (state.guardCount >= MOST_GUARDS) {
            throw new IllegalStateException("there are 10 guards");
        }
        trial.copyFrom(state);
        int oneMore = trial.newGuard(0, REACH_OF_ONE_MORE, NONE);
        int chosen = 0;
        int least = openOnDay(trial, day);
        for (int home = 1; home <= LAST_PLACE && least > 0; home++) {
            trial.guards[oneMore].home = home;
            int openPosts = openOnDay(trial, day);
            if (openPosts < least) {
                chosen = home;
                least = openPosts;
            }
        }
        return chosen;
    }

    public double filled() {
        int times = state.timesNeeded;
        if (times <= 0) {
            return 1.0;
        }
        return (double) (times - state.timesOpen()) / (double) times;
    }

    // ---- text

    public int append(int value) throws IllegalArgumentException, IllegalStateException {
        if (!isWithin(value, 0, LAST_BYTE)) {
            throw new IllegalArgumentException("the byte is out of range");
        }
        if (orders.length >= MOST_BYTES) {
            throw new IllegalStateException("the text has 90 bytes");
        }
        return orders.addByte(value);
    }

    public int clearText() {
        int previous = orders.length;
        orders.length = 0;
        return previous;
    }

    public int carryOut() {
        if (!orders.read()) {
            return -10 - orders.at;
        }
        save();
        int done = 0;
        while (done < orders.count && carriesOut(done)) {
            done++;
        }
        return done;
    }

    // ---- state

    public int undo() throws IllegalStateException {
        if (savedCount <= 0) {
            throw new IllegalStateException("there is no saved state");
        }
        savedCount--;
        state.copyFrom(saved[savedCount]);
        return savedCount;
    }

    public long digest() {
        long h = mixed(3617, orders.length);
        for (int what = 0; what <= LAST_VALUE; what++) {
            h = mixed(h, state.about(what));
        }
        for (int i = 0; i < state.holidayCount; i++) {
            h = mixed(mixed(h, state.firstDays[i]), state.lastDays[i]);
        }
        for (int p = 0; p < state.postCount; p++) {
            for (int what = 0; what <= LAST_ABOUT_POST; what++) {
                h = mixed(h, state.aboutPost(p, what));
            }
        }
        for (int g = 0; g < state.guardCount; g++) {
            for (int what = 0; what <= LAST_ABOUT_GUARD; what++) {
                h = mixed(h, state.guards[g].about(what, state.nextDay()));
            }
        }
        return mixed(h, savedCount);
    }

    private static long mixed(long h, int value) {
        return 31 * h + value;
    }

    private static boolean isWithin(int value, int lowest, int highest) {
        return value >= lowest && value <= highest;
    }

    private static boolean isDay(int day) {
        return isWithin(day, 0, LAST_DAY);
    }

    private static boolean isSession(int session) {
        return isWithin(session, 0, SESSIONS_A_DAY - 1);
    }

    private static boolean isPlace(int place) {
        return isWithin(place, 0, LAST_PLACE);
    }

    private static boolean isIn(int set, int number) {
        return (set >> number & 1) != 0;
    }

    /** The oldest saved state gives its row to the newest. */
    private void save() {
        if (savedCount == MOST_SAVED) {
            State oldest = saved[0];
            for (int i = 1; i < MOST_SAVED; i++) {
                saved[i - 1] = saved[i];
            }
            saved[MOST_SAVED - 1] = oldest;
            savedCount--;
        }
        saved[savedCount].copyFrom(state);
        savedCount++;
    }

    private int openOnDay(State asked, int day) {
        int sum = 0;
        for (int session = 0; session < SESSIONS_A_DAY; session++) {
            roster.draw(asked, day, session);
            sum += Integer.bitCount(roster.openPosts);
        }
        return sum;
    }

    /** Carries out one order; false if it is not possible. */
    private boolean carriesOut(int order) {
        int target = orders.targets[order];
        int days = orders.days[order];
        switch (orders.kinds[order]) {
            case 'd':
                if (!state.allowsDays(days)) {
                    return false;
                }
                state.takeDays(days, roster);
                return true;
            case 's':
                if (!state.hasGuard(target)) {
                    return false;
                }
                state.reportSick(target, days);
                return true;
            default:
                if (!state.hasPost(target) || !state.allowsComplaint(target)) {
                    return false;
                }
                state.fileComplaint(target);
                return true;
        }
    }

    /** A post with what has happened at it. */
    private static final class Post {
        int place;
        int needs;
        int timesOpen;
        int complaints;
        int latestOpen;
        /** The next session when the latest complaint was filed. */
        int latestComplaint;
        /** The first session without the priority. */
        int priorityEnd;
        int guard;
        int reason;

        void begin(int itsPlace, int itsNeeds) {
            place = itsPlace;
            needs = itsNeeds;
            timesOpen = 0;
            complaints = 0;
            latestOpen = NONE;
            latestComplaint = NONE;
            priorityEnd = 0;
            guard = NONE;
            reason = 0;
        }

        void copyFrom(Post other) {
            place = other.place;
            needs = other.needs;
            timesOpen = other.timesOpen;
            complaints = other.complaints;
            latestOpen = other.latestOpen;
            latestComplaint = other.latestComplaint;
            priorityEnd = other.priorityEnd;
            guard = other.guard;
            reason = other.reason;
        }

        boolean hasPriority(int next) {
            return next < priorityEnd;
        }

        boolean allowsComplaint(int next) {
            return latestOpen != NONE
                    && latestOpen >= next - SESSIONS_TO_COMPLAIN
                    && latestComplaint <= latestOpen;
        }

        void fileComplaint(int next) {
            complaints++;
            latestComplaint = next;
            priorityEnd = next + SESSIONS_OF_PRIORITY;
        }

        /** A reason of 0 says that it was not open. */
        void note(int itsGuard, int itsReason, int session) {
            guard = itsGuard;
            reason = itsReason;
            if (itsReason != 0) {
                timesOpen++;
                latestOpen = session;
            }
        }
    }

    /** A guard with pay and sickness. */
    private static final class Guard {
        int home;
        int reach;
        int own;
        int step;
        int work;
        int earnings;
        int wellFrom;
        int timesAtOwn;
        int timesAtOthers;

        void begin(int itsHome, int itsReach, int itsOwn) {
            home = itsHome;
            reach = itsReach;
            own = itsOwn;
            step = 0;
            work = 0;
            earnings = 0;
            wellFrom = 0;
            timesAtOwn = 0;
            timesAtOthers = 0;
        }

        void copyFrom(Guard other) {
            home = other.home;
            reach = other.reach;
            own = other.own;
            step = other.step;
            work = other.work;
            earnings = other.earnings;
            wellFrom = other.wellFrom;
            timesAtOwn = other.timesAtOwn;
            timesAtOthers = other.timesAtOthers;
        }

        boolean isSickOn(int day) {
            return day < wellFrom;
        }

        int distanceFrom(int place) {
            return home >= place ? home - place : place - home;
        }

        void standAt(int post, int place) {
            earnings += PAY + PAY_OF_STEP * step;
            if (post == own) {
                timesAtOwn++;
            } else {
                timesAtOthers++;
                earnings += distanceFrom(place) / DISTANCE_PAID;
            }
            work++;
            if (work == WORK_OF_STEP) {
                work = 0;
                step = Math.min(step + 1, HIGHEST_STEP);
            }
        }

        int about(int what, int nextDay) {
            switch (what) {
                case 0: return home;
                case 1: return reach;
                case 2: return own;
                case 3: return step;
                case 4: return work;
                case 5: return earnings;
                case 6: return isSickOn(nextDay) ? 1 : 0;
                case 7: return wellFrom;
                case 8: return timesAtOwn;
                case 9: return timesAtOthers;
                default: return step == HIGHEST_STEP ? NONE : WORK_OF_STEP - work;
            }
        }
    }

    /** All that undo restores. */
    private static final class State {
        final int[] firstDays = new int[MOST_HOLIDAYS];
        final int[] lastDays = new int[MOST_HOLIDAYS];
        int holidayCount;
        final Post[] posts = new Post[MOST_POSTS];
        int postCount;
        final Guard[] guards = new Guard[MOST_GUARDS];
        int guardCount;
        int next;
        int schoolSessions;
        int timesNeeded;

        State() {
            for (int p = 0; p < MOST_POSTS; p++) {
                posts[p] = new Post();
            }
            for (int g = 0; g < MOST_GUARDS; g++) {
                guards[g] = new Guard();
            }
        }

        /** Rows behind the counts stay as they are: begin() sets all of a row. */
        void copyFrom(State other) {
            holidayCount = other.holidayCount;
            postCount = other.postCount;
            guardCount = other.guardCount;
            next = other.next;
            schoolSessions = other.schoolSessions;
            timesNeeded = other.timesNeeded;
            System.arraycopy(other.firstDays, 0, firstDays, 0, MOST_HOLIDAYS);
            System.arraycopy(other.lastDays, 0, lastDays, 0, MOST_HOLIDAYS);
            for (int p = 0; p < postCount; p++) {
                posts[p].copyFrom(other.posts[p]);
            }
            for (int g = 0; g < guardCount; g++) {
                guards[g].copyFrom(other.guards[g]);
            }
        }

        boolean hasPost(int post) {
            return isWithin(post, 0, postCount - 1);
        }

        boolean hasGuard(int guard) {
            return isWithin(guard, 0, guardCount - 1);
        }

        int newHoliday(int first, int last) {
            firstDays[holidayCount] = first;
            lastDays[holidayCount] = last;
            holidayCount++;
            return holidayCount - 1;
        }

        int newPost(int place, int needs) {
            posts[postCount].begin(place, needs);
            postCount++;
            return postCount - 1;
        }

        int newGuard(int home, int reach, int own) {
            guards[guardCount].begin(home, reach, own);
            guardCount++;
            return guardCount - 1;
        }

        int ownerOf(int post) {
            for (int g = 0; g < guardCount; g++) {
                if (guards[g].own == post) {
                    return g;
                }
            }
            return NONE;
        }

        int nextDay() {
            return next / SESSIONS_A_DAY;
        }

        int reportSick(int guard, int days) {
            guards[guard].wellFrom = nextDay() + days;
            return guards[guard].wellFrom;
        }

        boolean allowsComplaint(int post) {
            return posts[post].allowsComplaint(next);
        }

        int fileComplaint(int post) {
            posts[post].fileComplaint(next);
            return posts[post].complaints;
        }

        boolean isSchoolDay(int day) {
            if (day % DAYS_A_WEEK >= SCHOOL_DAYS_A_WEEK) {
                return false;
            }
            for (int i = 0; i < holidayCount; i++) {
                if (day >= firstDays[i] && day <= lastDays[i]) {
                    return false;
                }
            }
            return true;
        }

        int neededPosts(int day, int session) {
            int set = 0;
            if (isSchoolDay(day)) {
                int bit = SESSIONS_A_DAY * (day % DAYS_A_WEEK) + session;
                for (int p = 0; p < postCount; p++) {
                    set |= (posts[p].needs >> bit & 1) << p;
                }
            }
            return set;
        }

        int wellGuards(int day) {
            int set = 0;
            for (int g = 0; g < guardCount; g++) {
                if (!guards[g].isSickOn(day)) {
                    set |= 1 << g;
                }
            }
            return set;
        }

        /** Lets the next session take place; returns the open posts. */
        int takeNext(Roster roster) {
            int day = nextDay();
            roster.draw(this, day, next % SESSIONS_A_DAY);
            for (int p = 0; p < postCount; p++) {
                int guard = roster.guardAt[p];
                posts[p].note(guard, roster.reasons[p], next);
                if (hasGuard(guard)) {
                    guards[guard].standAt(p, posts[p].place);
                }
            }
            if (isSchoolDay(day)) {
                schoolSessions++;
            }
            timesNeeded += Integer.bitCount(roster.neededPosts);
            next++;
            return roster.openPosts;
        }

        boolean allowsDays(int days) {
            return nextDay() + days - 1 <= LAST_DAY;
        }

        /** Lets days pass; returns how often a post was open. */
        int takeDays(int days, Roster roster) {
            int sum = 0;
            int sessions = SESSIONS_A_DAY * (nextDay() + days) - next;
            for (int i = 0; i < sessions; i++) {
                sum += Integer.bitCount(takeNext(roster));
            }
            return sum;
        }

        int timesOpen() {
            int sum = 0;
            for (int p = 0; p < postCount; p++) {
                sum += posts[p].timesOpen;
            }
            return sum;
        }

        int complaints() {
            int sum = 0;
            for (int p = 0; p < postCount; p++) {
                sum += posts[p].complaints;
            }
            return sum;
        }

        int earnings() {
            int sum = 0;
            for (int g = 0; g < guardCount; g++) {
                sum += guards[g].earnings;
            }
            return sum;
        }

        int aboutPost(int post, int what) {
            Post asked = posts[post];
            switch (what) {
                case 0: return asked.place;
                case 1: return asked.needs;
                case 2: return ownerOf(post);
                case 3: return asked.timesOpen;
                case 4: return asked.complaints;
                case 5: return asked.latestOpen;
                case 6: return asked.hasPriority(next) ? 1 : 0;
                case 7: return asked.guard;
                default: return asked.reason;
            }
        }

        int about(int what) {
            switch (what) {
                case 0: return holidayCount;
                case 1: return postCount;
                case 2: return guardCount;
                case 3: return nextDay();
                case 4: return next % SESSIONS_A_DAY;
                case 5: return schoolSessions;
                case 6: return timesNeeded;
                case 7: return timesOpen();
                case 8: return complaints();
                case 9: return earnings();
                default: return guardCount - Integer.bitCount(wellGuards(nextDay()));
            }
        }
    }

    /** Who stands where in one session. */
    private static final class Roster {
        final int[] guardAt = new int[MOST_POSTS];
        /** Why a post is open; 0 if it is not. */
        final int[] reasons = new int[MOST_POSTS];
        int neededPosts;
        int openPosts;
        int wellGuards;
        /** The guards who are not sick and do not stand yet. */
        int freeGuards;

        void draw(State state, int day, int session) {
            drawOwn(state, state.neededPosts(day, session), state.wellGuards(day));
            for (int turn = 0; turn < 2; turn++) {
                boolean isPriorityTurn = turn == 0;
                for (int p = 0; p < state.postCount; p++) {
                    Post post = state.posts[p];
                    if (lacksGuard(p) && post.hasPriority(state.next) == isPriorityTurn) {
                        placeOrLeaveOpen(nearest(state, post.place), p);
                    }
                }
            }
        }

        /** Puts the guards at their own posts alone. */
        void drawOwn(State state, int needed, int well) {
            Arrays.fill(guardAt, NONE);
            Arrays.fill(reasons, 0);
            openPosts = 0;
            neededPosts = needed;
            wellGuards = well;
            freeGuards = well;
            for (int g = 0; g < state.guardCount; g++) {
                int own = state.guards[g].own;
                if (own >= 0 && own < MOST_POSTS && isIn(well, g) && isIn(needed, own)) {
                    place(g, own);
                }
            }
        }

        private void place(int guard, int post) {
            guardAt[post] = guard;
            freeGuards &= ~(1 << guard);
        }

        private void placeOrLeaveOpen(int guard, int post) {
            if (guard == NONE) {
                openPosts |= 1 << post;
                reasons[post] = reasonNow();
            } else {
                place(guard, post);
            }
        }

        boolean lacksGuard(int post) {
            return isIn(neededPosts, post) && guardAt[post] == NONE;
        }

        private int nearest(State state, int place) {
            int chosen = NONE;
            int least = 0;
            int lowestStep = 0;
            for (int g = 0; g < state.guardCount; g++) {
                Guard guard = state.guards[g];
                int distance = guard.distanceFrom(place);
                if (isIn(freeGuards, g) && distance <= guard.reach
                        && (chosen == NONE || distance < least
                                || (distance == least && guard.step < lowestStep))) {
                    chosen = g;
                    least = distance;
                    lowestStep = guard.step;
                }
            }
            return chosen;
        }

        private int reasonNow() {
            if (wellGuards == 0) {
                return ALL_SICK;
            }
            return freeGuards == 0 ? ALL_STAND : TOO_FAR;
        }
    }

    /** The best replacements of all, by sets of posts and one guard after the other. */
    private static final class Replacements {
        /** Above every sum of distances. */
        private static final int NO_WAY = 1000000;

        private final int[] places = new int[MOST_POSTS];
        private int placeCount;
        /** The least sum of distances with which just the places of a set are taken. */
        private final int[] sums = new int[1 << MOST_POSTS];
        int leastOpen;
        int leastSum;

        /** The roster holds the guards at their own posts. */
        void find(State state, Roster roster) {
            collectPlaces(state, roster);
            Arrays.fill(sums, NO_WAY);
            sums[0] = 0;
            for (int g = 0; g < state.guardCount; g++) {
                if (isIn(roster.freeGuards, g)) {
                    addGuardToWays(state.guards[g]);
                }
            }
            choose();
        }

        private void collectPlaces(State state, Roster roster) {
            placeCount = 0;
            for (int p = 0; p < state.postCount; p++) {
                if (roster.lacksGuard(p)) {
                    places[placeCount] = state.posts[p].place;
                    placeCount++;
                }
            }
        }

        /** From the largest set down, so that no sum holds the guard twice. */
        private void addGuardToWays(Guard guard) {
            for (int set = (1 << placeCount) - 1; set > 0; set--) {
                for (int i = 0; i < placeCount; i++) {
                    int distance = guard.distanceFrom(places[i]);
                    if (isIn(set, i) && distance <= guard.reach) {
                        sums[set] = Math.min(sums[set], sums[set & ~(1 << i)] + distance);
                    }
                }
            }
        }

        private void choose() {
            leastOpen = placeCount;
            leastSum = 0;
            for (int set = 1; set < 1 << placeCount; set++) {
                int openPosts = placeCount - Integer.bitCount(set);
                boolean isWay = sums[set] < NO_WAY;
                if (isWay && (openPosts < leastOpen
                        || (openPosts == leastOpen && sums[set] < leastSum))) {
                    leastOpen = openPosts;
                    leastSum = sums[set];
                }
            }
        }
    }

    /** The text and the orders that are read from it. */
    private static final class Orders {
        private final int[] bytes = new int[MOST_BYTES];
        int length;
        final int[] kinds = new int[MOST_ORDERS];
        /** The number of the guard or post. */
        final int[] targets = new int[MOST_ORDERS];
        final int[] days = new int[MOST_ORDERS];
        int count;
        /** Where reading stands; behind a syntax error, its position. */
        int at;
        private int number;

        int addByte(int value) {
            bytes[length] = value;
            length++;
            return length;
        }

        /** Reads the whole text; false if there is a syntax error. */
        boolean read() {
            at = 0;
            count = 0;
            for (int i = 0; i < MOST_ORDERS && at < length; i++) {
                if (!readOrder()) {
                    return false;
                }
            }
            return true;
        }

        private boolean readOrder() {
            int kind = byteNow();
            int target = 0;
            number = 0;
            boolean isRead;
            switch (kind) {
                case 'd':
                    at++;
                    isRead = readDays();
                    break;
                case 's':
                    at++;
                    isRead = readDigit(MOST_GUARDS - 1);
                    target = number;
                    isRead = isRead && readSign(',') && readDays();
                    break;
                case 'c':
                    at++;
                    isRead = readDigit(MOST_POSTS - 1);
                    target = number;
                    break;
                default:
                    isRead = false;
            }
            if (!isRead || !readSign(';')) {
                return false;
            }
            kinds[count] = kind;
            targets[count] = target;
            days[count] = number;
            count++;
            return true;
        }

        /** The byte where reading stands, or NONE at the end of the text. */
        private int byteNow() {
            return at < length ? bytes[at] : NONE;
        }

        private boolean isAtDigit() {
            return isWithin(byteNow(), '0', '9');
        }

        private boolean readSign(int sign) {
            if (byteNow() != sign) {
                return false;
            }
            at++;
            return true;
        }

        private boolean readDigit(int highest) {
            if (!isWithin(byteNow(), '0', '0' + highest)) {
                return false;
            }
            number = byteNow() - '0';
            at++;
            return true;
        }

        private boolean readDays() {
            int first = at;
            if (!isAtDigit()) {
                return false;
            }
            readDigit(9);
            if (isAtDigit()) {
                int tens = number;
                readDigit(9);
                number += 10 * tens;
            }
            if (isAtDigit()) {
                return false;
            }
            if (!isWithin(number, 1, MOST_DAYS)) {
                at = first;
                return false;
            }
            return true;
        }
    }
}
