/** The boundary cases of "What it is" and "Terms", but for the text: a test for each sentence. */
public final class TermsTest extends Cases {
    /** The pay of one session at another post than the guard's own, at step 0. */
    private static int pay(int home, int place) {
        CrossingPosts x = street(at(place), at(home), 99);
        x.step();
        return x.guard(0, 5);
    }

    private void divisionRoundsDown() {
        check.is(10, () -> pay(50, 54));
        check.is(11, () -> pay(50, 55));
        check.is(11, () -> pay(50, 59));
        check.is(12, () -> pay(50, 60));
        check.is(28, () -> pay(0, 94));
        check.is(29, () -> pay(0, 95));
    }

    private void constantNone() {
        check.is(-1, () -> CrossingPosts.NONE);
    }

    private void lastCalls() {
        CrossingPosts undone = new CrossingPosts();
        for (int call = 1; call <= 510; call += 2) {
            check.is(0, () -> undone.addPost(99, ALL));
            check.is(0, undone::undo);
        }
        check.is(0, undone::clearText);
        check.is(0, () -> undone.addPost(99, ALL));
        CrossingPosts stepped = street(at(10));
        for (int call = 2; call <= 511; call++) stepped.step();
        check.is(510 / 2, () -> stepped.value(3));
    }

    private void distance() {
        check.is(10, () -> pay(50, 50));
        check.is(29, () -> pay(0, 99));
        check.is(29, () -> pay(99, 0));
        check.is(11, () -> pay(5, 0));
        check.is(11, () -> pay(0, 5));
        check.is(1, () -> street(at(10), at(16), 5).open(0, 0));
        check.is(1, () -> street(at(16), at(10), 5).open(0, 0));
    }

    // ---- time

    private void weekdays() {
        CrossingPosts x = new CrossingPosts();
        x.addPost(0, 1);
        x.addPost(0, 1 << 8);
        int[] days = {0, 1, 3, 4, 5, 6, 7, 8, 11, 2996, 2997, 2999, 3000};
        int[] due = {1, 0, 0, 2, 0, 0, 1, 0, 2, 1, 0, 0, 2};
        for (int i = 0; i < days.length; i++) {
            int day = days[i];
            check.is(due[i], () -> x.needed(day, 0));
        }
    }

    private void twoSessions() {
        CrossingPosts x = new CrossingPosts();
        x.addPost(0, 1);
        x.addPost(0, 2);
        check.is(1, () -> x.needed(0, 0));
        check.is(2, () -> x.needed(0, 1));
        check.is(1, x::step);
        check.is(1, () -> x.value(4));
        check.is(2, x::step);
        check.is(0, () -> x.value(4));
        check.is(1, () -> x.value(3));
    }

    private void sessionNumbers() {
        CrossingPosts x = street(at(0));
        int[] due = {0, 1, 2, 3};
        for (int number : due) {
            x.step();
            check.is(number, () -> x.post(0, 5));
        }
        CrossingPosts late = emptyOn(3000);
        late.addPost(0, ALL);
        late.step();
        check.is(6000, () -> late.post(0, 5));
        late.step();
        check.is(6001, () -> late.post(0, 5));
    }

    private void firstSession() {
        CrossingPosts x = new CrossingPosts();
        check.is(0, () -> x.value(3));
        check.is(0, () -> x.value(4));
    }

    private void schoolWeek() {
        CrossingPosts x = street(at(0));
        int[] due = {1, 1, 1, 1, 1, 0, 0, 1, 1, 1, 1, 1, 0, 0, 1};
        for (int d = 0; d < due.length; d++) {
            int day = d;
            check.is(due[d], () -> x.needed(day, 0));
            check.is(due[d], () -> x.needed(day, 1));
        }
        check.is(1, () -> x.needed(2993, 1));
        check.is(0, () -> x.needed(2994, 0));
        check.is(0, () -> x.needed(2995, 1));
        check.is(1, () -> x.needed(2996, 0));
        check.is(1, () -> x.needed(3000, 1));
    }

    private void holidayDaysIncluded() {
        CrossingPosts x = street(at(0));
        x.addHoliday(8, 10);
        int[] due = {1, 0, 0, 0, 1};
        for (int i = 0; i < due.length; i++) {
            int day = 7 + i;
            check.is(due[i], () -> x.needed(day, 0));
            check.is(due[i], () -> x.needed(day, 1));
        }
    }

    private void holidayOfOneDay() {
        CrossingPosts x = street(at(0));
        x.addHoliday(0, 0);
        check.is(0, () -> x.needed(0, 0));
        check.is(0, () -> x.needed(0, 1));
        check.is(1, () -> x.needed(1, 0));
        x.addHoliday(3000, 3000);
        check.is(0, () -> x.needed(3000, 1));
        check.is(1, () -> x.needed(2999, 1));
    }

    private void overlappingHolidays() {
        CrossingPosts x = street(at(0));
        x.addHoliday(1, 3);
        x.addHoliday(2, 2);
        x.addHoliday(3, 7);
        x.addHoliday(1, 3);
        int[] due = {1, 0, 0, 0, 0, 0, 0, 0, 1};
        for (int d = 0; d < due.length; d++) {
            int day = d;
            check.is(due[d], () -> x.needed(day, 1));
        }
    }

    private void sixHolidays() {
        CrossingPosts x = street(at(0));
        int[] days = {0, 1, 2, 3, 4, 7};
        for (int i = 0; i < 6; i++) {
            int number = i;
            check.is(number, () -> x.addHoliday(days[number], days[number]));
        }
        for (int day : days) check.is(0, () -> x.needed(day, 0));
        check.is(1, () -> x.needed(8, 0));
        state(x, () -> x.addHoliday(8, 8));
        check.is(1, () -> x.needed(8, 0));
    }

    private void allDaysAreHolidays() {
        CrossingPosts x = street(at(0));
        x.addHoliday(0, 3000);
        check.is(0, () -> x.needed(0, 0));
        check.is(0, () -> x.needed(3000, 1));
        check.is(0, () -> x.pass(60));
        check.is(0, () -> x.value(5));
    }

    // ---- posts and guards

    private void eightPosts() {
        CrossingPosts x = new CrossingPosts();
        for (int p = 0; p < 8; p++) {
            int number = p;
            check.is(number, () -> x.addPost(number, ALL));
        }
        state(x, () -> x.addPost(8, ALL));
        check.is(255, () -> x.needed(0, 0));
        check.is(255, x::step);
        check.is(7, () -> x.post(7, 0));
    }

    private void tenBits() {
        for (int bit = 0; bit < 10; bit++) {
            CrossingPosts x = new CrossingPosts();
            x.addPost(50, 1 << bit);
            for (int number = 0; number < 28; number++) {
                int session = number;
                check.is(number % 14 == bit ? 1 : 0, () -> x.needed(session / 2, session % 2));
            }
        }
    }

    private void neededOnSchoolDays() {
        CrossingPosts x = new CrossingPosts();
        x.addPost(10, 1);
        x.addPost(20, 0);
        x.addPost(30, ALL);
        x.addHoliday(7, 7);
        check.is(5, () -> x.needed(0, 0));
        check.is(4, () -> x.needed(0, 1));
        check.is(0, () -> x.needed(7, 0));
        check.is(5, () -> x.needed(14, 0));
    }

    private void tenGuards() {
        CrossingPosts x = street(at(99));
        for (int g = 0; g < 10; g++) {
            int number = g;
            check.is(number, () -> x.addGuard(number, 99, NONE));
        }
        state(x, () -> x.addGuard(99, 99, NONE));
        check.is(9, () -> x.standing(0, 0, 0));
        check.is(9, () -> x.guard(9, 0));
    }

    private void noTwoGuardsWithOnePost() {
        CrossingPosts x = street(at(10, 20));
        x.addGuard(10, 5, 1);
        state(x, () -> x.addGuard(10, 5, 1));
        x.addGuard(10, 5, 0);
        state(x, () -> x.setPost(1, 1));
        state(x, () -> x.setPost(0, 0));
        // many may be without a post
        check.is(2, () -> x.addGuard(10, 5, NONE));
        check.is(3, () -> x.addGuard(10, 5, NONE));
    }

    private void newGuard() {
        CrossingPosts x = street(at(10));
        x.pass(1);
        x.addGuard(0, 99, NONE);
        guardIs(x, 0, 0, 99, NONE, 0, 0, 0, 0, 0, 0, 0, 20);
    }

    private void sickBelowTheWellDay() {
        CrossingPosts x = street(at(10), at(10), 0);
        check.is(3, () -> x.sick(0, 3));
        check.is(1, () -> x.open(0, 0));
        check.is(1, () -> x.open(2, 1));
        check.is(0, () -> x.open(3, 0));
        goTo(x, 2);
        check.is(1, () -> x.guard(0, 6));
        check.is(1, x::step);
        check.is(1, () -> x.guard(0, 6));
        check.is(1, x::step);
        check.is(0, () -> x.guard(0, 6));
        check.is(0, x::step);
    }

    private void initiallyWell() {
        CrossingPosts x = street(at(10), at(10), 0);
        check.is(0, () -> x.guard(0, 7));
        check.is(0, () -> x.guard(0, 6));
        check.is(0, x::step);
    }

    private void wellFromTheNextSessionOn() {
        CrossingPosts x = street(at(10), at(10), 0);
        x.step();
        // the next session is session 1 of day 0, and then session 0 of day 1
        check.is(1, () -> x.sick(0, 1));
        x.step();
        check.is(2, () -> x.sick(0, 1));
        check.is(61, () -> x.sick(0, 60));
    }

    // ---- a session

    private void ownPostWhateverTheDistance() {
        CrossingPosts x = street(at(99));
        x.addGuard(0, 0, 0);
        check.is(0, x::step);
        check.is(0, () -> x.post(0, 7));
        check.is(10, () -> x.guard(0, 5));
    }

    private void ownPostNotNeeded() {
        CrossingPosts x = street(at(10, 20));
        x.addGuard(20, 10, 1);
        x.setNeeds(1, 1);
        // in the morning at the own post, though nobody is at post 0
        check.is(1, x::step);
        check.is(NONE, () -> x.post(0, 7));
        // in the afternoon at post 0
        check.is(0, x::step);
        check.is(0, () -> x.post(0, 7));
        check.is(NONE, () -> x.post(1, 7));
    }

    private void sickAtTheOwnPost() {
        CrossingPosts x = street(at(10), at(), 0);
        x.addGuard(10, 0, 0);
        x.addGuard(12, 2, NONE);
        x.sick(0, 1);
        check.is(0, x::step);
        check.is(1, () -> x.post(0, 7));
        check.is(0, () -> x.guard(0, 5));
        check.is(1, () -> x.guard(1, 9));
    }

    private void ownPostBeforeAll() {
        // guard 0 is nearer, and post 0 has a priority; guard 1 has it as own
        CrossingPosts x = street(at(10), at(), 0);
        x.step();
        x.complain(0);
        x.addGuard(10, 99, NONE);
        x.addGuard(99, 0, 0);
        check.is(0, x::step);
        check.is(1, () -> x.post(0, 7));
    }

    /** Four posts at one place; posts 2 and 3 have a priority if that is wanted. */
    private static CrossingPosts fourPosts(boolean priorities, int guards) {
        CrossingPosts x = street(at(10, 10, 10, 10));
        x.step();
        if (priorities) {
            x.complain(3);
            x.complain(2);
        }
        for (int g = 0; g < guards; g++) x.addGuard(10, 0, NONE);
        return x;
    }

    private void prioritiesFirst() {
        check.is(0b1011, () -> fourPosts(true, 1).step());
        check.is(0b0011, () -> fourPosts(true, 2).step());
        check.is(0b0010, () -> fourPosts(true, 3).step());
        check.is(0b0000, () -> fourPosts(true, 4).step());
        CrossingPosts x = fourPosts(true, 3);
        x.step();
        check.is(2, () -> x.post(0, 7));
        check.is(0, () -> x.post(2, 7));
        check.is(1, () -> x.post(3, 7));
    }

    private void ascendingOrder() {
        check.is(0b1110, () -> fourPosts(false, 1).step());
        check.is(0b1100, () -> fourPosts(false, 2).step());
        check.is(0b1000, () -> fourPosts(false, 3).step());
        // with a priority, too, the lower number comes first
        CrossingPosts x = street(at(10, 10));
        x.step();
        x.complain(1);
        x.complain(0);
        x.addGuard(10, 0, NONE);
        check.is(2, x::step);
    }

    private void reachIsTheDistance() {
        check.is(0, () -> street(at(10), at(30), 20).open(0, 0));
        check.is(1, () -> street(at(10), at(31), 20).open(0, 0));
        check.is(0, () -> street(at(31), at(11), 20).open(0, 0));
        check.is(1, () -> street(at(31), at(10), 20).open(0, 0));
        check.is(0, () -> street(at(50), at(50), 0).open(0, 0));
        check.is(1, () -> street(at(50), at(51), 0).open(0, 0));
        check.is(0, () -> street(at(0), at(99), 99).open(0, 0));
        check.is(1, () -> street(at(0), at(99), 98).open(0, 0));
    }

    private void leastDistance() {
        check.is(1, () -> street(at(50), at(52, 51), 99).standing(0, 0, 0));
        check.is(2, () -> street(at(50), at(52, 48, 51, 53), 99).standing(0, 0, 0));
        check.is(0, () -> street(at(50), at(49, 52, 48), 99).standing(0, 0, 0));
    }

    /** Guard 0 has step 1; both guards are as far away from the post 1 that is needed then. */
    private static CrossingPosts oneIsHigher(int otherHome) {
        CrossingPosts x = street(at(50, 50), at(), 0);
        x.addGuard(48, 99, 0);
        x.addGuard(otherHome, 99, NONE);
        x.setNeeds(1, 0);
        goTo(x, 14);
        x.setNeeds(0, 0);
        x.setNeeds(1, ALL);
        return x;
    }

    private void lowestStep() {
        CrossingPosts x = oneIsHigher(52);
        check.is(1, () -> x.guard(0, 3));
        check.is(0, () -> x.guard(1, 3));
        check.is(1, () -> x.standing(1, 14, 0));
        // a lower step doesn't make up for one more of distance
        check.is(0, () -> oneIsHigher(53).standing(1, 14, 0));
        // work below a step doesn't matter
        CrossingPosts y = street(at(50), at(50, 50), 0);
        y.step();
        check.is(0, y::step);
        check.is(2, () -> y.guard(0, 4));
    }

    private void lowestNumber() {
        check.is(0, () -> street(at(50), at(52, 48), 99).standing(0, 0, 0));
        check.is(1, () -> street(at(50), at(53, 48, 52, 48), 99).standing(0, 0, 0));
    }

    private void oneGuardOnePost() {
        CrossingPosts x = street(at(50, 50), at(50), 99);
        check.is(2, x::step);
        check.is(1, () -> x.guard(0, 9));
        // the guard of post 1 is nearest to post 0, too
        CrossingPosts y = street(at(50, 51));
        y.addGuard(50, 99, 1);
        check.is(1, y::step);
    }

    private void reasonAllSick() {
        CrossingPosts x = street(at(10));
        x.step();
        check.is(1, () -> x.post(0, 8));
        x.addGuard(10, 99, NONE);
        x.addGuard(99, 0, 0);
        x.sick(0, 1);
        x.sick(1, 1);
        x.step();
        check.is(1, () -> x.post(0, 8));
    }

    private void reasonAllStand() {
        CrossingPosts x = street(at(10, 20), at(10, 20, 20), 99);
        x.sick(1, 1);
        x.sick(2, 1);
        x.step();
        check.is(0, () -> x.post(0, 8));
        check.is(2, () -> x.post(1, 8));
        // one who stands at the own post stands already, too
        CrossingPosts y = street(at(10, 90));
        y.addGuard(10, 0, 1);
        y.step();
        check.is(2, () -> y.post(0, 8));
    }

    private void reasonTooFar() {
        CrossingPosts x = street(at(10, 90), at(80), 10);
        x.step();
        // when post 0 is looked at, the guard doesn't stand yet
        check.is(3, () -> x.post(0, 8));
        check.is(0, () -> x.post(1, 8));
        // one stands, one is sick, and one has not the reach
        CrossingPosts y = street(at(10, 90), at(10, 90, 50), 39);
        y.sick(1, 1);
        y.step();
        check.is(0, () -> y.post(0, 8));
        check.is(3, () -> y.post(1, 8));
    }

    private void reasonWhenLookedAt() {
        // post 1 comes first, by its priority: then all stand when post 0 is looked at
        CrossingPosts x = street(at(10, 90));
        x.step();
        x.complain(1);
        x.addGuard(80, 10, NONE);
        x.step();
        check.is(2, () -> x.post(0, 8));
        check.is(0, () -> x.post(1, 8));
    }

    private void payAtTheOwnPost() {
        CrossingPosts x = street(at(0, 99));
        x.addGuard(99, 99, 0);
        x.setNeeds(1, 0);
        x.step();
        check.is(10, () -> x.guard(0, 5));
        x.setNeeds(0, 0);
        x.setNeeds(1, ALL);
        x.setPost(0, 1);
        x.step();
        check.is(20, () -> x.guard(0, 5));
        x.setPost(0, NONE);
        x.setNeeds(0, ALL);
        x.setNeeds(1, 0);
        x.step();
        check.is(20 + 10 + 19, () -> x.guard(0, 5));
    }

    private void payOfTheStep() {
        CrossingPosts x = street(at(10), at(10), 0);
        int[] rate = {10, 12, 14, 16, 18, 20, 20};
        int paid = 0;
        for (int i = 0; i < rate.length; i++) {
            goTo(x, 14 * i + 11);
            x.step();
            // 19 sessions of the step are over; the 20th is paid by it, too
            int before = paid + 19 * rate[i];
            check.is(19, () -> x.guard(0, 4));
            check.is(before, () -> x.guard(0, 5));
            x.step();
            paid += 20 * rate[i];
            int behind = paid;
            check.is(behind, () -> x.guard(0, 5));
        }
    }

    private void workOfTwenty() {
        CrossingPosts x = street(at(10), at(10), 0);
        goTo(x, 11);
        check.is(18, () -> x.guard(0, 4));
        x.step();
        check.is(19, () -> x.guard(0, 4));
        check.is(0, () -> x.guard(0, 3));
        x.step();
        check.is(0, () -> x.guard(0, 4));
        check.is(1, () -> x.guard(0, 3));
        goTo(x, 14);
        x.step();
        check.is(1, () -> x.guard(0, 4));
        check.is(1, () -> x.guard(0, 3));
    }

    private void stepNotAboveFive() {
        CrossingPosts x = street(at(10), at(10), 0);
        goTo(x, 67);
        x.step();
        check.is(4, () -> x.guard(0, 3));
        check.is(19, () -> x.guard(0, 4));
        x.step();
        check.is(5, () -> x.guard(0, 3));
        check.is(0, () -> x.guard(0, 4));
        goTo(x, 81);
        x.step();
        check.is(5, () -> x.guard(0, 3));
        check.is(19, () -> x.guard(0, 4));
        x.step();
        check.is(5, () -> x.guard(0, 3));
        check.is(0, () -> x.guard(0, 4));
    }

    private void workAtEveryPost() {
        // work counts at the own post and at others
        CrossingPosts x = street(at(10, 20));
        x.addGuard(10, 10, 0);
        x.setNeeds(1, 0);
        x.step();
        x.setNeeds(0, 0);
        x.setNeeds(1, ALL);
        x.step();
        check.is(2, () -> x.guard(0, 4));
        check.is(1, () -> x.guard(0, 8));
        check.is(1, () -> x.guard(0, 9));
        // and does not without a needed post
        x.setNeeds(1, 0);
        x.step();
        check.is(2, () -> x.guard(0, 4));
    }

    private void sessionsOfOtherDays() {
        CrossingPosts x = street(at(10, 90));
        x.addGuard(10, 10, 0);
        x.addHoliday(7, 7);
        goTo(x, 5);
        int[] postOne = {90, ALL, NONE, 10, 0, 9, 0, NONE, 0};
        int[] guard = {10, 10, 0, 0, 10, 100, 0, 0, 10, 0, 10};
        // Saturday, Sunday, and the holiday
        for (int session = 10; session < 16; session++) {
            check.is(0, x::step);
            postIs(x, 0, 10, ALL, 0, 0, 0, NONE, 0, NONE, 0);
            postIs(x, 1, postOne);
            guardIs(x, 0, guard);
            valuesAre(x, 1, 2, 1, (session + 1) / 2, (session + 1) % 2, 10, 20, 10, 0, 100, 0);
        }
        check.is(2, x::step);
        check.is(11, () -> x.value(5));
    }

    private void nextSessionFollows() {
        CrossingPosts x = new CrossingPosts();
        for (int number = 0; number < 16; number++) {
            int due = number;
            check.is(due / 2, () -> x.value(3));
            check.is(due % 2, () -> x.value(4));
            x.step();
        }
    }

    // ---- complaints

    /** The post was open in session 0 alone; the next session is the given one. */
    private static CrossingPosts openLongAgo(int next) {
        CrossingPosts x = street(at(10));
        x.step();
        x.setNeeds(0, 0);
        steps(x, next - 1);
        return x;
    }

    private void latestTenSessions() {
        check.is(1, () -> openLongAgo(1).complain(0));
        check.is(1, () -> openLongAgo(9).complain(0));
        check.is(1, () -> openLongAgo(10).complain(0));
        CrossingPosts x = openLongAgo(11);
        state(x, () -> x.complain(0));
        CrossingPosts y = openLongAgo(12);
        state(y, () -> y.complain(0));
    }

    private void tenSessionsByNumbers() {
        // open on Friday afternoon, session 9; sessions 10 to 13 are a weekend
        CrossingPosts x = street(at(10));
        x.setNeeds(0, 1 << 9);
        goTo(x, 9);
        steps(x, 1);
        check.is(19, () -> 2 * x.value(3) + x.value(4));
        check.is(1, () -> x.complain(0));
        CrossingPosts y = street(at(10));
        y.setNeeds(0, 1 << 9);
        goTo(y, 10);
        state(y, () -> y.complain(0));
    }

    private void neverOpen() {
        CrossingPosts x = street(at(10), at(10), 0);
        state(x, () -> x.complain(0));
        x.step();
        state(x, () -> x.complain(0));
        // a post that is not needed is not open
        CrossingPosts y = new CrossingPosts();
        y.addPost(10, 0);
        y.step();
        state(y, () -> y.complain(0));
    }

    private void openOncePastTen() {
        // nearer to the first session than 10, and never open
        CrossingPosts x = new CrossingPosts();
        x.addPost(10, 0);
        for (int session = 0; session < 12; session++) {
            state(x, () -> x.complain(0));
            x.step();
        }
    }

    private void noneSinceThen() {
        CrossingPosts x = street(at(10, 20));
        x.step();
        check.is(1, () -> x.complain(0));
        state(x, () -> x.complain(0));
        // the complaint about post 0 is none about post 1
        check.is(1, () -> x.complain(1));
        x.setNeeds(0, 0);
        x.step();
        state(x, () -> x.complain(0));
        x.setNeeds(0, ALL);
        x.step();
        check.is(2, () -> x.complain(0));
        state(x, () -> x.complain(0));
    }

    private void prioritySessions() {
        CrossingPosts x = openLongAgo(1);
        x.complain(0);
        for (int session = 1; session <= 20; session++) {
            check.is(1, () -> x.post(0, 6));
            x.step();
        }
        check.is(0, () -> x.post(0, 6));
        x.step();
        check.is(0, () -> x.post(0, 6));
    }

    private void priorityInTheLastSession() {
        // both posts wait for one guard; the priority of post 1 is for sessions 1 to 20
        CrossingPosts x = street(at(10, 10));
        x.step();
        x.complain(1);
        x.addGuard(10, 0, NONE);
        goTo(x, 10);
        check.is(1, () -> x.open(10, 0));
        check.is(1, x::step);
        check.is(2, () -> x.open(10, 1));
        check.is(2, x::step);
    }

    private void priorityBeginsAgain() {
        CrossingPosts x = street(at(10));
        x.step();
        x.complain(0);
        goTo(x, 7);
        x.step();
        check.is(2, () -> x.complain(0));
        x.setNeeds(0, 0);
        // from session 15 to session 34
        goTo(x, 17);
        check.is(1, () -> x.post(0, 6));
        x.step();
        check.is(0, () -> x.post(0, 6));
    }

    private void noPriorityBefore() {
        CrossingPosts x = street(at(10));
        check.is(0, () -> x.post(0, 6));
        x.step();
        check.is(0, () -> x.post(0, 6));
        x.complain(0);
        check.is(1, () -> x.post(0, 6));
    }

    private void run() {
        check.test("a / b means division rounded down", this::divisionRoundsDown);
        check.test("an object is used for at most 512 calls", this::lastCalls);
        check.test("NONE = -1", this::constantNone);
        check.test("a distance is without sign", this::distance);
        check.test("day d is weekday d modulo 7", this::weekdays);
        check.test("0 the morning and 1 the afternoon", this::twoSessions);
        check.test("the session number is 2 * d + s", this::sessionNumbers);
        check.test("the next session is session 0 of day 0 at first", this::firstSession);
        check.test("a school day's weekday is 0 to 4", this::schoolWeek);
        check.test("a holiday, both days included", this::holidayDaysIncluded);
        check.test("a holiday of one day", this::holidayOfOneDay);
        check.test("it lies in no holiday, of several", this::overlappingHolidays);
        check.test("at most 6 holidays, numbered from 0", this::sixHolidays);
        check.test("a holiday of all days", this::allDaysAreHolidays);
        check.test("at most 8 posts, numbered from 0", this::eightPosts);
        check.test("bit 2 * w + s for session s of weekday w", this::tenBits);
        check.test("needed in a session of a school day", this::neededOnSchoolDays);
        check.test("at most 10 guards, numbered from 0", this::tenGuards);
        check.test("no two have the same post", this::noTwoGuardsWithOnePost);
        check.test("at first 0", this::newGuard);
        check.test("sick on the days below the well one", this::sickBelowTheWellDay);
        check.test("initially 0", this::initiallyWell);
        check.test("well from the day of the next session plus the number", this::wellFromTheNextSessionOn);
        check.test("at the own post, whatever the distance", this::ownPostWhateverTheDistance);
        check.test("whose post is needed", this::ownPostNotNeeded);
        check.test("each guard who is not sick", this::sickAtTheOwnPost);
        check.test("own posts before the others", this::ownPostBeforeAll);
        check.test("those with a priority first", this::prioritiesFirst);
        check.test("each in ascending order", this::ascendingOrder);
        check.test("a reach that is at least the distance", this::reachIsTheDistance);
        check.test("the least distance", this::leastDistance);
        check.test("of several the lowest step", this::lowestStep);
        check.test("then the lowest number", this::lowestNumber);
        check.test("who do not stand at a post yet", this::oneGuardOnePost);
        check.test("reason 1: all are sick, or there are none", this::reasonAllSick);
        check.test("reason 2: all who are not sick stand already", this::reasonAllStand);
        check.test("reason 3: those who do not stand have not the reach", this::reasonTooFar);
        check.test("the reason when the post is looked at", this::reasonWhenLookedAt);
        check.test("the distance / 5 at another post than the own", this::payAtTheOwnPost);
        check.test("10 plus 2 * (the step)", this::payOfTheStep);
        check.test("work: if it is 20, it becomes 0", this::workOfTwenty);
        check.test("the step rises, not above 5", this::stepNotAboveFive);
        check.test("each guard who stands works", this::workAtEveryPost);
        check.test("on other days nothing else happens", this::sessionsOfOtherDays);
        check.test("then the next session is the one that follows", this::nextSessionFollows);
        check.test("open in one of the latest 10 sessions", this::latestTenSessions);
        check.test("by session numbers", this::tenSessionsByNumbers);
        check.test("a post that has been open", this::neverOpen);
        check.test("a post that has not been open, session by session", this::openOncePastTen);
        check.test("if there was none since then", this::noneSinceThen);
        check.test("a priority in 20 sessions from the next one on", this::prioritySessions);
        check.test("the last session of a priority", this::priorityInTheLastSession);
        check.test("a priority that begins again", this::priorityBeginsAgain);
        check.test("no priority without a complaint", this::noPriorityBefore);
        check.end();
    }

    public static void main(String[] args) {
        new TermsTest().run();
    }
}
