import java.util.ArrayList;
import java.util.List;

/**
 * A second, slow reading of the document, made another way than the program:
 * it keeps a diary of all sessions and works every answer out of it.
 */
final class Reference {
    static final class Refused extends RuntimeException {
        final String name;

        Refused(String name) {
            super(name);
            this.name = name;
        }
    }

    static final class PostRow {
        final int place;
        int needs;
        final List<Integer> complaintsAt = new ArrayList<>();

        PostRow(int place, int needs) {
            this.place = place;
            this.needs = needs;
        }

        PostRow copy() {
            PostRow row = new PostRow(place, needs);
            row.complaintsAt.addAll(complaintsAt);
            return row;
        }
    }

    static final class GuardRow {
        final int home;
        final int reach;
        int own;
        int wellFrom = 0;

        GuardRow(int home, int reach, int own) {
            this.home = home;
            this.reach = reach;
            this.own = own;
        }

        GuardRow copy() {
            GuardRow row = new GuardRow(home, reach, own);
            row.wellFrom = wellFrom;
            return row;
        }
    }

    /** What a guard did in a session of the diary. */
    static final class Duty {
        final int guard;
        final int post;
        final boolean atOwn;
        final int distance;

        Duty(int guard, int post, boolean atOwn, int distance) {
            this.guard = guard;
            this.post = post;
            this.atOwn = atOwn;
            this.distance = distance;
        }
    }

    /** One session that has taken place, never changed afterwards. */
    static final class Page {
        boolean school;
        final List<Integer> needed = new ArrayList<>();
        final List<Duty> duties = new ArrayList<>();
        final List<Integer> openPosts = new ArrayList<>();
        final List<Integer> reasons = new ArrayList<>();
    }

    static final class World {
        List<int[]> holidays = new ArrayList<>();
        List<PostRow> posts = new ArrayList<>();
        List<GuardRow> guards = new ArrayList<>();
        List<Page> diary = new ArrayList<>();

        World copy() {
            World w = new World();
            w.holidays.addAll(holidays);
            for (PostRow p : posts) w.posts.add(p.copy());
            for (GuardRow g : guards) w.guards.add(g.copy());
            w.diary.addAll(diary);
            return w;
        }

        int next() {
            return diary.size();
        }

        int day() {
            return next() / 2;
        }

        int workOf(int guard) {
            int stood = 0;
            for (Page page : diary) {
                for (Duty duty : page.duties) {
                    if (duty.guard == guard) stood++;
                }
            }
            return stood;
        }

        int stepOf(int guard) {
            return Math.min(5, workOf(guard) / 20);
        }

        int earningsOf(int guard) {
            int stood = 0;
            int sum = 0;
            for (Page page : diary) {
                for (Duty duty : page.duties) {
                    if (duty.guard != guard) continue;
                    sum += 10 + 2 * Math.min(5, stood / 20);
                    if (!duty.atOwn) sum += duty.distance / 5;
                    stood++;
                }
            }
            return sum;
        }

        boolean priority(int post) {
            for (int at : posts.get(post).complaintsAt) {
                if (next() >= at && next() <= at + 19) return true;
            }
            return false;
        }

        int latestOpen(int post) {
            for (int s = next() - 1; s >= 0; s--) {
                if (diary.get(s).openPosts.contains(post)) return s;
            }
            return -1;
        }

        boolean canComplain(int post) {
            for (int s = Math.max(0, next() - 10); s < next(); s++) {
                if (!diary.get(s).openPosts.contains(post)) continue;
                boolean none = true;
                for (int at : posts.get(post).complaintsAt) {
                    if (at > s) none = false;
                }
                if (none) return true;
            }
            return false;
        }

        boolean schoolDay(int day) {
            if (day % 7 == 5 || day % 7 == 6) return false;
            for (int[] h : holidays) {
                if (h[0] <= day && day <= h[1]) return false;
            }
            return true;
        }

        Page play(int day, int session) {
            Page page = new Page();
            page.school = schoolDay(day);
            if (!page.school) return page;
            int[] steps = new int[guards.size()];
            for (int g = 0; g < guards.size(); g++) steps[g] = stepOf(g);
            List<Integer> idle = new ArrayList<>();
            int fit = 0;
            for (int g = 0; g < guards.size(); g++) {
                if (day >= guards.get(g).wellFrom) {
                    idle.add(g);
                    fit++;
                }
            }
            for (int p = 0; p < posts.size(); p++) {
                if ((posts.get(p).needs & (1 << (2 * (day % 7) + session))) != 0) page.needed.add(p);
            }
            List<Integer> waiting = new ArrayList<>(page.needed);
            for (Integer p : page.needed) {
                for (Integer g : new ArrayList<>(idle)) {
                    if (guards.get(g).own == p) {
                        page.duties.add(new Duty(g, p, true, Math.abs(guards.get(g).home - posts.get(p).place)));
                        idle.remove(g);
                        waiting.remove(p);
                    }
                }
            }
            List<Integer> order = new ArrayList<>();
            for (Integer p : waiting) if (priority(p)) order.add(p);
            for (Integer p : waiting) if (!priority(p)) order.add(p);
            for (Integer p : order) {
                Integer chosen = null;
                long key = Long.MAX_VALUE;
                for (Integer g : idle) {
                    int distance = Math.abs(guards.get(g).home - posts.get(p).place);
                    if (guards.get(g).reach < distance) continue;
                    long itsKey = distance * 10000L + steps[g] * 100L + g;
                    if (itsKey < key) {
                        key = itsKey;
                        chosen = g;
                    }
                }
                if (chosen == null) {
                    page.openPosts.add(p);
                    page.reasons.add(fit == 0 ? 1 : idle.isEmpty() ? 2 : 3);
                } else {
                    page.duties.add(new Duty(chosen, p, false, (int) (key / 10000)));
                    idle.remove(chosen);
                }
            }
            return page;
        }

        int take() {
            Page page = play(day(), next() % 2);
            diary.add(page);
            return setOf(page.openPosts);
        }
    }

    private World now = new World();
    private final List<World> saved = new ArrayList<>();
    private String text = "";

    private void save() {
        saved.add(now.copy());
        if (saved.size() > 4) saved.remove(0);
    }

    private static void outOfBounds(boolean refused) {
        if (refused) throw new Refused("IndexOutOfBoundsException");
    }

    private static void argument(boolean refused) {
        if (refused) throw new Refused("IllegalArgumentException");
    }

    private static void illegalState(boolean refused) {
        if (refused) throw new Refused("IllegalStateException");
    }

    private static int setOf(List<Integer> posts) {
        int set = 0;
        for (int p : posts) set |= 1 << p;
        return set;
    }

    private boolean noPost(int p) {
        return p < 0 || p >= now.posts.size();
    }

    private boolean noGuard(int g) {
        return g < 0 || g >= now.guards.size();
    }

    private boolean isTaken(int post, int except) {
        for (int g = 0; g < now.guards.size(); g++) {
            if (g != except && post != -1 && now.guards.get(g).own == post) return true;
        }
        return false;
    }

    private static boolean badDay(int day) {
        return day < 0 || day > 3000;
    }

    int addHoliday(int first, int last) {
        argument(badDay(first) || badDay(last) || last < first);
        illegalState(now.holidays.size() == 6);
        save();
        now.holidays.add(new int[] {first, last});
        return now.holidays.size() - 1;
    }

    int addPost(int place, int needs) {
        argument(place < 0 || place > 99 || needs < 0 || needs > 1023);
        illegalState(now.posts.size() == 8);
        save();
        now.posts.add(new PostRow(place, needs));
        return now.posts.size() - 1;
    }

    int setNeeds(int post, int needs) {
        outOfBounds(noPost(post));
        argument(needs < 0 || needs > 1023);
        save();
        int before = now.posts.get(post).needs;
        now.posts.get(post).needs = needs;
        return before;
    }

    int addGuard(int home, int reach, int post) {
        outOfBounds(post != -1 && noPost(post));
        argument(home < 0 || home > 99 || reach < 0 || reach > 99);
        illegalState(now.guards.size() == 10 || isTaken(post, -1));
        save();
        now.guards.add(new GuardRow(home, reach, post));
        return now.guards.size() - 1;
    }

    int setPost(int guard, int post) {
        outOfBounds(noGuard(guard) || (post != -1 && noPost(post)));
        illegalState(isTaken(post, guard));
        save();
        int before = now.guards.get(guard).own;
        now.guards.get(guard).own = post;
        return before;
    }

    int sick(int guard, int days) {
        outOfBounds(noGuard(guard));
        argument(days < 0 || days > 60);
        save();
        return now.guards.get(guard).wellFrom = now.day() + days;
    }

    int complain(int post) {
        outOfBounds(noPost(post));
        illegalState(!now.canComplain(post));
        save();
        now.posts.get(post).complaintsAt.add(now.next());
        return now.posts.get(post).complaintsAt.size();
    }

    int step() {
        illegalState(now.day() > 3000);
        save();
        return now.take();
    }

    private int letPass(int days) {
        int until = now.day() + days;
        int sum = 0;
        while (now.day() < until) sum += Integer.bitCount(now.take());
        return sum;
    }

    int pass(int days) {
        argument(days < 1 || days > 60);
        illegalState(now.day() + days > 3001);
        save();
        return letPass(days);
    }

    int post(int post, int what) {
        outOfBounds(noPost(post));
        argument(what < 0 || what > 8);
        PostRow row = now.posts.get(post);
        Page latest = now.diary.isEmpty() ? new Page() : now.diary.get(now.next() - 1);
        switch (what) {
            case 0: return row.place;
            case 1: return row.needs;
            case 2:
                for (int g = 0; g < now.guards.size(); g++) if (now.guards.get(g).own == post) return g;
                return -1;
            case 3: {
                int times = 0;
                for (Page page : now.diary) if (page.openPosts.contains(post)) times++;
                return times;
            }
            case 4: return row.complaintsAt.size();
            case 5: return now.latestOpen(post);
            case 6: return now.priority(post) ? 1 : 0;
            case 7:
                for (Duty duty : latest.duties) if (duty.post == post) return duty.guard;
                return -1;
            default: {
                int at = latest.openPosts.indexOf(post);
                return at < 0 ? 0 : latest.reasons.get(at);
            }
        }
    }

    int guard(int guard, int what) {
        outOfBounds(noGuard(guard));
        argument(what < 0 || what > 10);
        GuardRow row = now.guards.get(guard);
        int own = 0;
        int others = 0;
        for (Page page : now.diary) {
            for (Duty duty : page.duties) {
                if (duty.guard == guard && duty.atOwn) own++;
                if (duty.guard == guard && !duty.atOwn) others++;
            }
        }
        int work = now.workOf(guard) % 20;
        switch (what) {
            case 0: return row.home;
            case 1: return row.reach;
            case 2: return row.own;
            case 3: return now.stepOf(guard);
            case 4: return work;
            case 5: return now.earningsOf(guard);
            case 6: return now.day() < row.wellFrom ? 1 : 0;
            case 7: return row.wellFrom;
            case 8: return own;
            case 9: return others;
            default: return now.stepOf(guard) == 5 ? -1 : 20 - work;
        }
    }

    int value(int what) {
        argument(what < 0 || what > 10);
        int school = 0;
        int needs = 0;
        int open = 0;
        for (Page page : now.diary) {
            if (page.school) school++;
            needs += page.needed.size();
            open += page.openPosts.size();
        }
        int complaints = 0;
        for (PostRow row : now.posts) complaints += row.complaintsAt.size();
        int earnings = 0;
        int sick = 0;
        for (int g = 0; g < now.guards.size(); g++) {
            earnings += now.earningsOf(g);
            if (now.day() < now.guards.get(g).wellFrom) sick++;
        }
        int[] values = {now.holidays.size(), now.posts.size(), now.guards.size(), now.day(),
            now.next() % 2, school, needs, open, complaints, earnings, sick};
        return values[what];
    }

    int holiday(int holiday, boolean last) {
        outOfBounds(holiday < 0 || holiday >= now.holidays.size());
        return now.holidays.get(holiday)[last ? 1 : 0];
    }

    private static boolean badTime(int day, int session) {
        return badDay(day) || session < 0 || session > 1;
    }

    int needed(int day, int session) {
        argument(badTime(day, session));
        return setOf(now.play(day, session).needed);
    }

    int open(int day, int session) {
        argument(badTime(day, session));
        return setOf(now.play(day, session).openPosts);
    }

    int standing(int post, int day, int session) {
        outOfBounds(noPost(post));
        argument(badTime(day, session));
        for (Duty duty : now.play(day, session).duties) if (duty.post == post) return duty.guard;
        return -1;
    }

    private int[] bestOf(List<Integer> posts, int at, List<Integer> free) {
        if (at == posts.size()) return new int[] {0, 0};
        int[] best = bestOf(posts, at + 1, free);
        best[0]++;
        for (int i = 0; i < free.size(); i++) {
            GuardRow row = now.guards.get(free.get(i));
            int distance = Math.abs(row.home - now.posts.get(posts.get(at)).place);
            if (distance > row.reach) continue;
            List<Integer> rest = new ArrayList<>(free);
            rest.remove(i);
            int[] way = bestOf(posts, at + 1, rest);
            way[1] += distance;
            if (way[0] < best[0] || (way[0] == best[0] && way[1] < best[1])) best = way;
        }
        return best;
    }

    int best(int day, int session, int what) {
        argument(badTime(day, session) || what < 0 || what > 1);
        List<Integer> posts = new ArrayList<>(now.play(day, session).needed);
        List<Integer> free = new ArrayList<>();
        for (int g = 0; g < now.guards.size(); g++) {
            Integer own = now.guards.get(g).own;
            if (day < now.guards.get(g).wellFrom) continue;
            if (!posts.remove(own)) free.add(g);
        }
        return bestOf(posts, 0, free)[what];
    }

    private static int openOn(World world, int day) {
        return world.play(day, 0).openPosts.size() + world.play(day, 1).openPosts.size();
    }

    int missed(int guard, int day) {
        outOfBounds(noGuard(guard));
        argument(badDay(day));
        if (day < now.guards.get(guard).wellFrom) return 0;
        World other = now.copy();
        other.guards.get(guard).wellFrom = 5000;
        return openOn(other, day) - openOn(now, day);
    }

    int daysToOpen() {
        World other = now.copy();
        int today = other.day();
        while (other.day() <= today + 60) {
            int day = other.day();
            if (other.take() != 0) return day - today;
        }
        return -1;
    }

    int bestHome(int day) {
        argument(badDay(day));
        illegalState(now.guards.size() == 10);
        int chosen = 0;
        int least = Integer.MAX_VALUE;
        for (int home = 99; home >= 0; home--) {
            World other = now.copy();
            other.guards.add(new GuardRow(home, 20, -1));
            int open = openOn(other, day);
            if (open <= least) {
                least = open;
                chosen = home;
            }
        }
        return chosen;
    }

    double filled() {
        if (value(6) == 0) return 1.0;
        return (double) (value(6) - value(7)) / (double) value(6);
    }

    int append(int value) {
        argument(value < 0 || value > 127);
        illegalState(text.length() == 90);
        text += (char) value;
        return text.length();
    }

    int clearText() {
        int length = text.length();
        text = "";
        return length;
    }

    /** The state of an automaton that has read the bytes so far. */
    private int syntaxError(List<String> orders) {
        String state = "start";
        int first = 0;
        StringBuilder order = new StringBuilder();
        StringBuilder digits = new StringBuilder();
        for (int i = 0; i <= text.length(); i++) {
            int c = i < text.length() ? text.charAt(i) : -1;
            boolean digit = c >= '0' && c <= '9';
            if (state.equals("number") && digits.length() > 0 && !digit) {
                int days = Integer.parseInt(digits.toString());
                if (days < 1 || days > 60) return first;
                state = "end";
            }
            if (c == -1) return state.equals("start") ? -1 : i;
            if (state.equals("start")) {
                order.setLength(0);
                digits.setLength(0);
                if (c == 'd') {
                    state = "number";
                    first = i + 1;
                } else if (c == 's') state = "guard";
                else if (c == 'c') state = "post";
                else return i;
            } else if (state.equals("guard")) {
                if (!digit) return i;
                state = "comma";
            } else if (state.equals("comma")) {
                if (c != ',') return i;
                state = "number";
                first = i + 1;
            } else if (state.equals("post")) {
                if (c < '0' || c > '7') return i;
                state = "end";
            } else if (state.equals("number")) {
                if (!digit || digits.length() == 2) return i;
                digits.append((char) c);
            } else {
                if (c != ';') return i;
                orders.add(order.toString());
                state = "start";
                continue;
            }
            order.append((char) c);
        }
        throw new AssertionError();
    }

    int carryOut() {
        List<String> orders = new ArrayList<>();
        int wrong = syntaxError(orders);
        if (wrong >= 0) return -10 - wrong;
        save();
        int done = 0;
        for (String order : orders) {
            int number = order.charAt(1) - '0';
            if (order.charAt(0) == 'd') {
                int days = Integer.parseInt(order.substring(1));
                if (now.day() + days > 3001) return done;
                letPass(days);
            } else if (order.charAt(0) == 's') {
                if (noGuard(number)) return done;
                now.guards.get(number).wellFrom = now.day() + Integer.parseInt(order.substring(3));
            } else {
                if (noPost(number) || !now.canComplain(number)) return done;
                now.posts.get(number).complaintsAt.add(now.next());
            }
            done++;
        }
        return done;
    }

    int undo() {
        illegalState(saved.isEmpty());
        now = saved.remove(saved.size() - 1);
        return saved.size();
    }

    long digest() {
        List<Integer> values = new ArrayList<>();
        values.add(text.length());
        for (int what = 0; what <= 10; what++) values.add(value(what));
        for (int[] h : now.holidays) {
            values.add(h[0]);
            values.add(h[1]);
        }
        for (int p = 0; p < now.posts.size(); p++) {
            for (int what = 0; what <= 8; what++) values.add(post(p, what));
        }
        for (int g = 0; g < now.guards.size(); g++) {
            for (int what = 0; what <= 10; what++) values.add(guard(g, what));
        }
        values.add(saved.size());
        long h = 3617;
        for (int v : values) h = 31 * h + v;
        return h;
    }
}
