/** The boundary cases of promises 11 to 22 and 27: a test for each sentence. */
public final class QuestionsTest extends Cases {
    // ---- promise 11: post

    private void noSuchPost() {
        CrossingPosts none = new CrossingPosts();
        bounds(none, () -> none.post(0, 0));
        CrossingPosts x = street(at(10, 20));
        bounds(x, () -> x.post(2, 0));
        bounds(x, () -> x.post(-1, 0));
        bounds(x, () -> x.post(LOW, 0));
        bounds(x, () -> x.post(HIGH, 0));
        bounds(x, () -> x.post(2, 9));
        bounds(x, () -> x.post(-1, -1));
        check.is(20, () -> x.post(1, 0));
    }

    private void aboutPostInRange() {
        CrossingPosts x = street(at(10));
        argument(x, () -> x.post(0, -1));
        argument(x, () -> x.post(0, 9));
        argument(x, () -> x.post(0, LOW));
        argument(x, () -> x.post(0, HIGH));
        check.is(10, () -> x.post(0, 0));
        check.is(0, () -> x.post(0, 8));
    }

    private void newPost() {
        CrossingPosts x = new CrossingPosts();
        x.addPost(99, 5);
        postIs(x, 0, 99, 5, NONE, 0, 0, NONE, 0, NONE, 0);
        // one that is added later has nothing of the sessions before
        x.step();
        x.addPost(0, 0);
        postIs(x, 1, 0, 0, NONE, 0, 0, NONE, 0, NONE, 0);
    }

    private void ownerOfPost() {
        CrossingPosts x = street(at(10, 20), at(5), 5);
        check.is(NONE, () -> x.post(1, 2));
        x.addGuard(5, 5, 1);
        check.is(1, () -> x.post(1, 2));
        check.is(NONE, () -> x.post(0, 2));
        x.setPost(1, 0);
        check.is(NONE, () -> x.post(1, 2));
        check.is(1, () -> x.post(0, 2));
        x.setPost(1, NONE);
        check.is(NONE, () -> x.post(0, 2));
    }

    private void timesOpen() {
        CrossingPosts x = street(at(10, 20), at(10), 0);
        for (int times = 0; times <= 9; times++) {
            int due = times;
            check.is(0, () -> x.post(0, 3));
            check.is(due, () -> x.post(1, 3));
            x.step();
        }
    }

    private void complaintsOfPost() {
        CrossingPosts x = street(at(10, 20));
        check.is(0, () -> x.post(0, 4));
        x.step();
        x.complain(0);
        check.is(1, () -> x.post(0, 4));
        check.is(0, () -> x.post(1, 4));
        // they stay when the priority is over
        x.setNeeds(0, 0);
        goTo(x, 12);
        check.is(1, () -> x.post(0, 4));
    }

    private void latestOpenSession() {
        CrossingPosts x = street(at(10));
        check.is(NONE, () -> x.post(0, 5));
        x.step();
        check.is(0, () -> x.post(0, 5));
        x.addGuard(10, 0, 0);
        x.step();
        check.is(0, () -> x.post(0, 5));
        x.sick(0, 1);
        x.step();
        check.is(2, () -> x.post(0, 5));
        goTo(x, 40);
        check.is(3, () -> x.post(0, 5));
    }

    private void priorityOfPost() {
        CrossingPosts x = street(at(10, 20));
        x.step();
        check.is(0, () -> x.post(0, 6));
        x.complain(1);
        check.is(0, () -> x.post(0, 6));
        check.is(1, () -> x.post(1, 6));
        goTo(x, 10);
        check.is(1, () -> x.post(1, 6));
        x.step();
        check.is(0, () -> x.post(1, 6));
    }

    private void guardInLatestSession() {
        CrossingPosts x = street(at(10, 10), at(10, 10), 0);
        check.is(NONE, () -> x.post(0, 7));
        x.step();
        check.is(0, () -> x.post(0, 7));
        check.is(1, () -> x.post(1, 7));
        x.setPost(0, 1);
        check.is(0, () -> x.post(0, 7));
        x.step();
        check.is(1, () -> x.post(0, 7));
        check.is(0, () -> x.post(1, 7));
        x.sick(0, 1);
        x.setNeeds(0, 0);
        x.step();
        check.is(NONE, () -> x.post(0, 7));
        check.is(1, () -> x.post(1, 7));
        x.sick(1, 1);
        x.step();
        check.is(NONE, () -> x.post(1, 7));
    }

    private void reasonInLatestSession() {
        CrossingPosts x = street(at(10));
        check.is(0, () -> x.post(0, 8));
        x.step();
        check.is(1, () -> x.post(0, 8));
        x.addGuard(12, 1, NONE);
        check.is(1, () -> x.post(0, 8));
        x.step();
        check.is(3, () -> x.post(0, 8));
        x.addPost(12, ALL);
        x.setPost(0, 1);
        x.step();
        check.is(2, () -> x.post(0, 8));
        check.is(0, () -> x.post(1, 8));
        x.setPost(0, 0);
        x.step();
        check.is(0, () -> x.post(0, 8));
        check.is(2, () -> x.post(1, 8));
        x.setNeeds(1, 0);
        x.step();
        check.is(0, () -> x.post(1, 8));
    }

    private void nobodyAfterOtherDays() {
        CrossingPosts x = street(at(10, 90), at(10), 0);
        goTo(x, 5);
        check.is(0, () -> x.post(0, 7));
        check.is(2, () -> x.post(1, 8));
        x.step();
        check.is(NONE, () -> x.post(0, 7));
        check.is(0, () -> x.post(1, 8));
        check.is(9, () -> x.post(1, 5));
    }

    // ---- promise 12: guard

    private void noSuchGuard() {
        CrossingPosts none = new CrossingPosts();
        bounds(none, () -> none.guard(0, 0));
        CrossingPosts x = street(at(10), at(7, 8), 5);
        bounds(x, () -> x.guard(2, 0));
        bounds(x, () -> x.guard(-1, 0));
        bounds(x, () -> x.guard(LOW, 0));
        bounds(x, () -> x.guard(HIGH, 0));
        bounds(x, () -> x.guard(2, 11));
        bounds(x, () -> x.guard(-1, -1));
        check.is(8, () -> x.guard(1, 0));
    }

    private void aboutGuardInRange() {
        CrossingPosts x = street(at(10), at(7), 5);
        argument(x, () -> x.guard(0, -1));
        argument(x, () -> x.guard(0, 11));
        argument(x, () -> x.guard(0, LOW));
        argument(x, () -> x.guard(0, HIGH));
        check.is(7, () -> x.guard(0, 0));
        check.is(20, () -> x.guard(0, 10));
    }

    private void ownPostOfGuard() {
        CrossingPosts x = street(at(10, 20), at(5), 5);
        check.is(NONE, () -> x.guard(0, 2));
        x.setPost(0, 1);
        check.is(1, () -> x.guard(0, 2));
        x.setPost(0, NONE);
        check.is(NONE, () -> x.guard(0, 2));
    }

    private void sickInTheNextSession() {
        CrossingPosts x = street(at(10), at(10), 0);
        x.sick(0, 1);
        check.is(1, () -> x.guard(0, 6));
        x.step();
        check.is(1, () -> x.guard(0, 6));
        x.step();
        check.is(0, () -> x.guard(0, 6));
        check.is(1, () -> x.guard(0, 7));
        x.pass(9);
        check.is(1, () -> x.guard(0, 7));
    }

    private void sessionsAtPosts() {
        CrossingPosts x = street(at(10, 20));
        x.addGuard(10, 99, 0);
        x.pass(2);
        x.setPost(0, 1);
        // what was the own post then stays so
        check.is(4, () -> x.guard(0, 8));
        check.is(0, () -> x.guard(0, 9));
        x.step();
        check.is(5, () -> x.guard(0, 8));
        x.setPost(0, NONE);
        x.step();
        check.is(5, () -> x.guard(0, 8));
        check.is(1, () -> x.guard(0, 9));
        x.sick(0, 1);
        x.step();
        check.is(5, () -> x.guard(0, 8));
        check.is(1, () -> x.guard(0, 9));
    }

    private void workUntilTheStepRises() {
        CrossingPosts x = street(at(10), at(10), 0);
        check.is(20, () -> x.guard(0, 10));
        goTo(x, 11);
        x.step();
        check.is(1, () -> x.guard(0, 10));
        x.step();
        check.is(20, () -> x.guard(0, 10));
        goTo(x, 67);
        x.step();
        check.is(1, () -> x.guard(0, 10));
        x.step();
        check.is(5, () -> x.guard(0, 3));
        check.is(NONE, () -> x.guard(0, 10));
        goTo(x, 72);
        check.is(4, () -> x.guard(0, 4));
        check.is(NONE, () -> x.guard(0, 10));
    }

    // ---- promise 13: value

    private void valueInRange() {
        CrossingPosts x = new CrossingPosts();
        argument(x, () -> x.value(-1));
        argument(x, () -> x.value(11));
        argument(x, () -> x.value(LOW));
        argument(x, () -> x.value(HIGH));
        check.is(0, () -> x.value(0));
        check.is(0, () -> x.value(10));
    }

    private void allValues() {
        CrossingPosts x = street(at(10, 20, 90), at(10, 25), 5);
        x.setNeeds(1, 0b0101010101);
        x.addHoliday(2, 2);
        x.addHoliday(300, 400);
        x.pass(6);
        x.complain(2);
        x.sick(0, 2);
        x.step();
        // four school days: 2 posts in all their sessions, 1 in the mornings alone
        valuesAre(x, 2, 3, 2, 6, 1, 8, 20, 8, 1, 80 + 4 * 11, 1);
    }

    private void dayAndSessionOfTheNext() {
        CrossingPosts x = emptyOn(3000);
        check.is(3000, () -> x.value(3));
        check.is(0, () -> x.value(4));
        x.step();
        check.is(3000, () -> x.value(3));
        check.is(1, () -> x.value(4));
        x.step();
        check.is(3001, () -> x.value(3));
        check.is(0, () -> x.value(4));
    }

    private void schoolSessionsWithoutPosts() {
        CrossingPosts x = new CrossingPosts();
        x.addHoliday(0, 0);
        x.pass(7);
        check.is(8, () -> x.value(5));
        check.is(0, () -> x.value(6));
        x.step();
        check.is(9, () -> x.value(5));
    }

    private void sickGuards() {
        CrossingPosts x = street(at(10), at(1, 2, 3), 5);
        check.is(0, () -> x.value(10));
        x.sick(0, 1);
        x.sick(2, 2);
        check.is(2, () -> x.value(10));
        x.step();
        check.is(2, () -> x.value(10));
        x.step();
        check.is(1, () -> x.value(10));
        x.pass(1);
        check.is(0, () -> x.value(10));
    }

    // ---- promise 14: holiday

    private void noSuchHoliday() {
        CrossingPosts x = new CrossingPosts();
        bounds(x, () -> x.holiday(0, false));
        bounds(x, () -> x.holiday(0, true));
        x.addHoliday(3, 9);
        bounds(x, () -> x.holiday(1, false));
        bounds(x, () -> x.holiday(-1, true));
        bounds(x, () -> x.holiday(LOW, true));
        bounds(x, () -> x.holiday(HIGH, true));
        for (int i = 1; i < 6; i++) x.addHoliday(i, i + 1);
        bounds(x, () -> x.holiday(6, false));
        check.is(6, () -> x.holiday(5, true));
    }

    private void firstOrLastDay() {
        CrossingPosts x = new CrossingPosts();
        x.addHoliday(0, 3000);
        x.addHoliday(7, 7);
        check.is(0, () -> x.holiday(0, false));
        check.is(3000, () -> x.holiday(0, true));
        check.is(7, () -> x.holiday(1, false));
        check.is(7, () -> x.holiday(1, true));
    }

    // ---- the days and sessions that are asked for: promises 15 to 19 and 21

    private void askedDays() {
        CrossingPosts x = street(at(10), at(10), 0);
        for (int bad : at(-1, 3001, LOW, HIGH)) {
            argument(x, () -> x.needed(bad, 0));
            argument(x, () -> x.open(bad, 0));
            argument(x, () -> x.standing(0, bad, 0));
            argument(x, () -> x.best(bad, 0, 0));
            argument(x, () -> x.missed(0, bad));
            argument(x, () -> x.bestHome(bad));
        }
        for (int good : at(0, 3000)) {
            check.is(1, () -> x.needed(good, 0));
            check.is(0, () -> x.open(good, 1));
            check.is(0, () -> x.standing(0, good, 0));
            check.is(0, () -> x.best(good, 1, 0));
            check.is(2, () -> x.missed(0, good));
            check.is(0, () -> x.bestHome(good));
        }
    }

    private void askedSessions() {
        CrossingPosts x = street(at(10));
        x.setNeeds(0, 1);
        for (int bad : at(-1, 2, LOW, HIGH)) {
            argument(x, () -> x.needed(0, bad));
            argument(x, () -> x.open(0, bad));
            argument(x, () -> x.standing(0, 0, bad));
            argument(x, () -> x.best(0, bad, 0));
        }
        x.addGuard(10, 0, NONE);
        check.is(1, () -> x.needed(0, 0));
        check.is(0, () -> x.needed(0, 1));
        check.is(0, () -> x.standing(0, 0, 0));
        check.is(NONE, () -> x.standing(0, 0, 1));
        x.sick(0, 1);
        check.is(1, () -> x.open(0, 0));
        check.is(0, () -> x.open(0, 1));
        check.is(1, () -> x.best(0, 0, 0));
        check.is(0, () -> x.best(0, 1, 0));
    }

    private void questionsChangeNothing() {
        CrossingPosts x = busyRoad();
        write(x, "d1;");
        long before = x.digest();
        for (int day : at(0, 4, 5, 7, 2999)) {
            x.needed(day, 0);
            x.open(day, 1);
            x.standing(2, day, 0);
            x.best(day, 1, 1);
            x.missed(1, day);
            x.bestHome(day);
        }
        x.daysToOpen();
        x.filled();
        x.value(9);
        x.post(1, 6);
        x.guard(1, 10);
        x.holiday(1, true);
        check.is(before, x::digest);
        check.is(1, x::carryOut);
    }

    // ---- promise 15: needed

    private void setOfPosts() {
        CrossingPosts x = new CrossingPosts();
        check.is(0, () -> x.needed(0, 0));
        for (int p = 0; p < 8; p++) x.addPost(9, p % 2 == 0 ? 1 : 2);
        check.is(0b01010101, () -> x.needed(0, 0));
        check.is(0b10101010, () -> x.needed(0, 1));
        check.is(0, () -> x.needed(1, 0));
    }

    private void neededOnPastDays() {
        CrossingPosts x = street(at(10), at(10), 0);
        x.pass(20);
        check.is(1, () -> x.needed(0, 0));
        check.is(0, () -> x.needed(5, 0));
        x.setNeeds(0, 2);
        check.is(0, () -> x.needed(0, 0));
        check.is(1, () -> x.needed(0, 1));
    }

    // ---- promise 16: open

    private void sicknessOfTheAskedDay() {
        CrossingPosts x = street(at(10), at(10), 0);
        x.pass(2);
        x.sick(0, 2);
        check.is(1, () -> x.open(2, 0));
        check.is(1, () -> x.open(3, 1));
        check.is(0, () -> x.open(4, 0));
        // below the day from which the guard is well, past days too
        check.is(1, () -> x.open(1, 0));
    }

    private void prioritiesOfTheNextSession() {
        CrossingPosts x = street(at(10, 10));
        x.step();
        x.complain(1);
        x.addGuard(10, 0, NONE);
        check.is(1, () -> x.open(0, 0));
        check.is(1, () -> x.open(3000, 1));
        goTo(x, 10);
        check.is(1, () -> x.open(3000, 1));
        x.step();
        check.is(2, () -> x.open(3000, 1));
        check.is(2, () -> x.open(0, 1));
    }

    private void openOnOtherDays() {
        CrossingPosts x = street(at(10));
        x.addHoliday(7, 7);
        check.is(0, () -> x.open(5, 0));
        check.is(0, () -> x.open(6, 1));
        check.is(0, () -> x.open(7, 0));
        check.is(1, () -> x.open(8, 0));
        check.is(0, () -> new CrossingPosts().open(0, 0));
    }

    private void openAsStepTells() {
        CrossingPosts x = busyRoad();
        for (int session = 0; session < 24; session++) {
            int due = x.open(x.value(3), x.value(4));
            check.is(due, x::step);
        }
    }

    // ---- promise 17: standing

    private void standingNoSuchPost() {
        CrossingPosts none = new CrossingPosts();
        bounds(none, () -> none.standing(0, 0, 0));
        CrossingPosts x = street(at(10, 20), at(20), 0);
        bounds(x, () -> x.standing(2, 0, 0));
        bounds(x, () -> x.standing(-1, 0, 0));
        bounds(x, () -> x.standing(LOW, 0, 0));
        bounds(x, () -> x.standing(HIGH, 0, 0));
        bounds(x, () -> x.standing(2, 3001, 0));
        bounds(x, () -> x.standing(2, 0, 2));
        bounds(x, () -> x.standing(-1, -1, -1));
        check.is(0, () -> x.standing(1, 0, 0));
    }

    private void standingNone() {
        CrossingPosts x = street(at(10, 20), at(20), 0);
        // open, not needed, not needed on a Saturday, on a holiday
        check.is(NONE, () -> x.standing(0, 0, 0));
        x.setNeeds(1, 1);
        check.is(0, () -> x.standing(1, 0, 0));
        check.is(NONE, () -> x.standing(1, 0, 1));
        check.is(NONE, () -> x.standing(1, 5, 0));
        x.addHoliday(7, 7);
        check.is(NONE, () -> x.standing(1, 7, 0));
        check.is(0, () -> x.standing(1, 14, 0));
        // sick on that day
        x.sick(0, 14);
        check.is(NONE, () -> x.standing(1, 0, 0));
        check.is(0, () -> x.standing(1, 14, 0));
    }

    private void standingAsSessionsTell() {
        CrossingPosts x = busyRoad();
        for (int session = 0; session < 24; session++) {
            int[] due = new int[4];
            for (int p = 0; p < 4; p++) due[p] = x.standing(p, x.value(3), x.value(4));
            x.step();
            for (int p = 0; p < 4; p++) {
                int post = p;
                check.is(due[post], () -> x.post(post, 7));
            }
        }
    }

    // ---- promise 18: best

    private void bestWhat() {
        CrossingPosts x = street(at(10, 20), at(13), 5);
        argument(x, () -> x.best(0, 0, -1));
        argument(x, () -> x.best(0, 0, 2));
        argument(x, () -> x.best(0, 0, LOW));
        argument(x, () -> x.best(0, 0, HIGH));
        best(x, 1, 3);
    }

    private void best(CrossingPosts x, int openPosts, int sum) {
        check.is(openPosts, () -> x.best(0, 0, 0));
        check.is(sum, () -> x.best(0, 0, 1));
    }

    private void bestOfNothing() {
        best(new CrossingPosts(), 0, 0);
        best(street(at(1, 2, 3)), 3, 0);
        best(street(at(), at(1, 2), 9), 0, 0);
        CrossingPosts weekend = street(at(10), at(10), 0);
        check.is(0, () -> weekend.best(5, 0, 0));
        check.is(0, () -> weekend.best(6, 1, 1));
        weekend.addHoliday(7, 7);
        check.is(0, () -> weekend.best(7, 0, 0));
    }

    private void bestKeepsOwnPosts() {
        // guard 0 would be nearer to post 1, but stands at the own post
        CrossingPosts x = street(at(10, 20));
        x.addGuard(20, 99, 0);
        x.addGuard(10, 10, NONE);
        best(x, 0, 10);
        // alone, the guard stays as well
        x.sick(1, 1);
        best(x, 1, 0);
        // whatever the distance, which adds nothing to the sum
        CrossingPosts far = street(at(99));
        far.addGuard(0, 0, 0);
        best(far, 0, 0);
    }

    private void bestWithOwnPostNotNeeded() {
        CrossingPosts x = street(at(10, 20));
        x.addGuard(13, 9, 1);
        best(x, 1, 0);
        x.setNeeds(1, 0);
        best(x, 0, 3);
    }

    private void bestWithSickGuards() {
        CrossingPosts x = street(at(10, 20));
        x.addGuard(10, 99, 0);
        x.addGuard(22, 99, NONE);
        best(x, 0, 2);
        x.sick(0, 1);
        best(x, 1, 2);
        x.sick(1, 1);
        best(x, 2, 0);
        check.is(0, () -> x.best(1, 0, 0));
    }

    private void bestWithinReach() {
        best(street(at(30), at(10), 20), 0, 20);
        best(street(at(31), at(10), 20), 1, 0);
        best(street(at(10), at(30), 20), 0, 20);
        best(street(at(10), at(31), 20), 1, 0);
        best(street(at(50), at(50), 0), 0, 0);
        best(street(at(50), at(49), 0), 1, 0);
    }

    private void bestAtMostOneAtEach() {
        best(street(at(10, 10), at(10), 99), 1, 0);
        best(street(at(10, 10), at(10, 11), 99), 0, 1);
        best(street(at(10), at(12, 13, 14), 99), 0, 2);
    }

    private void fewestOpenBeforeLeastSum() {
        // post 0 alone would cost nothing; both cost 70
        CrossingPosts x = street(at(0, 70), at(0), 99);
        x.addGuard(70, 0, NONE);
        best(x, 0, 0);
        CrossingPosts y = street(at(0, 70));
        y.addGuard(0, 70, NONE);
        y.addGuard(5, 5, NONE);
        best(y, 0, 75);
        check.is(0b10, () -> y.open(0, 0));
    }

    private void leastSumOfSeveral() {
        // nearest first, post by post, would be 0 + 30
        CrossingPosts x = street(at(20, 21), at(20, 31), 99);
        best(x, 0, 10);
        CrossingPosts y = street(at(20, 30), at(25, 45), 99);
        best(y, 0, 20);
        // one guard, three posts, whichever is the nearest
        best(street(at(40, 20, 33), at(30), 15), 2, 3);
        best(street(at(40, 33, 20), at(30), 15), 2, 3);
        best(street(at(33, 40, 20), at(30), 15), 2, 3);
        // three guards, one post, whoever is the nearest
        best(street(at(40), at(20, 30, 43), 99), 0, 3);
        best(street(at(40), at(20, 43, 30), 99), 0, 3);
        best(street(at(40), at(43, 20, 30), 99), 0, 3);
        // two guards, three posts: posts 0 and 2, or posts 0 and 1
        best(street(at(10, 40, 22), at(9, 25), 99), 1, 4);
        best(street(at(10, 22, 40), at(25, 9), 99), 1, 4);
    }

    private void chainOfReplacements() {
        // guard 0 reaches posts 0 and 1, guard 1 posts 1 and 2, guard 2 post 0 alone
        CrossingPosts x = street(at(10, 20, 30));
        x.addGuard(14, 6, NONE);
        x.addGuard(24, 6, NONE);
        x.addGuard(5, 5, NONE);
        best(x, 0, 5 + 6 + 6);
    }

    private void bestOfTheFullRoad() {
        int[] posts = at(99, 99, 99, 99, 99, 99, 99, 99);
        int[] guards = at(0, 0, 0, 0, 0, 0, 0, 0, 0, 0);
        best(street(posts, guards, 99), 0, 8 * 99);
        best(street(posts, guards, 98), 8, 0);
        // the last guard and the last post count as well
        best(street(at(90, 90, 90, 90, 90, 90, 90, 0), at(40, 40, 40, 40, 40, 40, 40, 40, 40, 1), 1), 7, 1);
    }

    // ---- promise 19: missed

    private void missedNoSuchGuard() {
        CrossingPosts none = new CrossingPosts();
        bounds(none, () -> none.missed(0, 0));
        CrossingPosts x = street(at(10), at(90, 10), 0);
        bounds(x, () -> x.missed(2, 0));
        bounds(x, () -> x.missed(-1, 0));
        bounds(x, () -> x.missed(LOW, 0));
        bounds(x, () -> x.missed(HIGH, 0));
        bounds(x, () -> x.missed(2, 3001));
        bounds(x, () -> x.missed(-1, -1));
        check.is(2, () -> x.missed(1, 0));
        check.is(0, () -> x.missed(0, 0));
    }

    private void missedInBothSessions() {
        CrossingPosts x = street(at(10, 90), at(10), 0);
        check.is(2, () -> x.missed(0, 0));
        x.setNeeds(0, 1);
        check.is(1, () -> x.missed(0, 0));
        x.setNeeds(0, 2);
        check.is(1, () -> x.missed(0, 0));
        x.setNeeds(0, 4 + 8);
        check.is(0, () -> x.missed(0, 0));
        check.is(2, () -> x.missed(0, 1));
        check.is(0, () -> x.missed(0, 5));
        // both, though the next session is the second one
        x.step();
        x.setNeeds(0, ALL);
        check.is(2, () -> x.missed(0, 0));
    }

    private void missedSickAnyway() {
        CrossingPosts x = street(at(10), at(10), 0);
        x.sick(0, 3);
        check.is(0, () -> x.missed(0, 0));
        check.is(0, () -> x.missed(0, 2));
        check.is(2, () -> x.missed(0, 3));
        check.is(2, () -> x.missed(0, 3000));
    }

    private void missedAsByOpen() {
        // with the priority none is open; without it post 1 is open anyway
        CrossingPosts x = waitingForPriority(1);
        check.is(2, () -> x.missed(0, 0));
        check.is(2, () -> x.missed(0, 3000));
        goTo(x, 11);
        check.is(0, () -> x.missed(0, 0));
        check.is(0, () -> x.missed(0, 11));
    }

    private void missedWithReplacement() {
        CrossingPosts x = street(at(10));
        x.addGuard(10, 0, 0);
        x.addGuard(12, 2, NONE);
        check.is(0, () -> x.missed(0, 0));
        check.is(0, () -> x.missed(1, 0));
        x.sick(1, 1);
        check.is(2, () -> x.missed(0, 0));
        check.is(0, () -> x.missed(1, 0));
        check.is(0, () -> x.missed(0, 1));
    }

    // ---- promise 20: daysToOpen

    private void zeroForToday() {
        CrossingPosts x = street(at(10));
        x.setNeeds(0, 2);
        check.is(0, x::daysToOpen);
        x.step();
        check.is(0, x::daysToOpen);
        // the open session of today has taken place
        x.step();
        check.is(6, x::daysToOpen);
        CrossingPosts y = street(at(10));
        y.setNeeds(0, 1);
        check.is(0, y::daysToOpen);
        y.step();
        check.is(7, y::daysToOpen);
    }

    /** First open on day 70, a Monday, in one session; the next session is session 0 of the given day. */
    private static CrossingPosts openOnDaySeventy(int session, int today) {
        CrossingPosts x = street(at(10));
        x.setNeeds(0, 1 << session);
        x.addHoliday(0, 69);
        goTo(x, today);
        return x;
    }

    private void atMostSixtyDays() {
        for (int session : at(0, 1)) {
            check.is(59, () -> openOnDaySeventy(session, 11).daysToOpen());
            check.is(60, () -> openOnDaySeventy(session, 10).daysToOpen());
            check.is(NONE, () -> openOnDaySeventy(session, 9).daysToOpen());
        }
    }

    private void atMostSixtyDaysFromAnAfternoon() {
        for (int session : at(0, 1)) {
            CrossingPosts x = openOnDaySeventy(session, 9);
            x.step();
            check.is(NONE, x::daysToOpen);
            CrossingPosts y = openOnDaySeventy(session, 10);
            y.step();
            check.is(60, y::daysToOpen);
        }
    }

    private void holidaysInWhatIf() {
        // needed on Tuesdays: not on day 8, which is in the holiday
        CrossingPosts x = street(at(50), at(50), 0);
        x.setNeeds(0, 1 << 2);
        x.addHoliday(8, 10);
        x.sick(0, 1);
        check.is(NONE, x::daysToOpen);
        x.sick(0, 2);
        check.is(1, x::daysToOpen);
        x.sick(0, 60);
        goTo(x, 2);
        check.is(13, x::daysToOpen);
        check.is(30, () -> x.bestHome(1));
        check.is(0, () -> x.bestHome(8));
        x.sick(0, 0);
        check.is(1, () -> x.missed(0, 15));
        check.is(0, () -> x.missed(0, 8));
        check.is(1, () -> x.missed(0, 22));
    }

    private void neverOpenAtAll() {
        check.is(NONE, () -> new CrossingPosts().daysToOpen());
        check.is(NONE, () -> street(at(10), at(10), 0).daysToOpen());
        CrossingPosts x = new CrossingPosts();
        x.addPost(10, 0);
        check.is(NONE, x::daysToOpen);
    }

    private void dayThreeThousandDoesNotMatter() {
        CrossingPosts x = emptyOn(3000);
        x.addPost(10, 1);
        // day 3000 is a Friday
        check.is(3, x::daysToOpen);
        x.pass(1);
        check.is(2, x::daysToOpen);
        x.setNeeds(0, 0);
        check.is(NONE, x::daysToOpen);
        CrossingPosts y = emptyOn(2941);
        y.addPost(10, ALL);
        y.addHoliday(2941, 3000);
        check.is(NONE, y::daysToOpen);
        y.pass(2);
        check.is(60, y::daysToOpen);
    }

    private void sicknessGoesOn() {
        CrossingPosts x = street(at(10), at(10), 0);
        x.setNeeds(0, 1 << 6);
        // Thursday, day 3
        x.sick(0, 3);
        check.is(NONE, x::daysToOpen);
        x.sick(0, 4);
        check.is(3, x::daysToOpen);
        goTo(x, 4);
        check.is(NONE, x::daysToOpen);
    }

    /** While post 1 has the priority, guard 0 is left to it, and guard 1 stands at post 0. */
    private static CrossingPosts waitingForPriority(int next) {
        CrossingPosts x = street(at(10, 30));
        x.addGuard(12, 18, NONE);
        x.addGuard(4, 6, NONE);
        steps(x, next);
        x.complain(1);
        return x;
    }

    private void prioritiesGoOn() {
        // the first session without the priority is session 21, of day 10
        check.is(10, () -> waitingForPriority(1).daysToOpen());
        // it is session 22, of day 11; today is day 1
        check.is(10, () -> waitingForPriority(2).daysToOpen());
        CrossingPosts x = waitingForPriority(1);
        check.is(0, () -> x.open(10, 1));
        check.is(10, x::daysToOpen);
        goTo(x, 10);
        check.is(0, x::daysToOpen);
        check.is(0, x::step);
        check.is(2, x::step);
    }

    private void stepsGoOn() {
        // when the step of guard 0 rises, guard 1 is taken for post 0, and post 1 has nobody
        CrossingPosts x = street(at(10, 30));
        x.addGuard(12, 9, NONE);
        x.addGuard(8, 22, NONE);
        x.setNeeds(1, 0);
        goTo(x, 7);
        x.setNeeds(1, ALL);
        check.is(0, () -> x.open(11, 1));
        check.is(7, x::daysToOpen);
        check.is(0, () -> x.pass(7));
        check.is(2, x::step);
    }

    // ---- promise 21: bestHome

    private void reachOfTwenty() {
        check.is(0, () -> street(at(0)).bestHome(0));
        check.is(0, () -> street(at(20)).bestHome(0));
        check.is(1, () -> street(at(21)).bestHome(0));
        check.is(79, () -> street(at(99)).bestHome(0));
    }

    private void lowestHomeOfSeveral() {
        check.is(0, () -> new CrossingPosts().bestHome(0));
        check.is(0, () -> street(at(50)).bestHome(5));
        check.is(30, () -> street(at(50)).bestHome(4));
        check.is(0, () -> street(at(50), at(50), 0).bestHome(0));
        // one of two posts either way
        check.is(30, () -> street(at(95, 50)).bestHome(0));
    }

    private void lastHome() {
        // at a home below 99 the new guard is nearer to post 0 than guard 0, who cannot reach post 1
        CrossingPosts x = street(at(80, 99), at(61), 19);
        check.is(99, () -> x.bestHome(0));
    }

    private void oneGuardMore() {
        // the new guard's step is 0, that of guard 0 is 1: as near to post 0, the new one stands there
        CrossingPosts x = street(at(50, 80), at(50), 99);
        check.is(60, () -> x.bestHome(0));
        x.setNeeds(1, 0);
        goTo(x, 14);
        x.setNeeds(1, ALL);
        check.is(1, () -> x.guard(0, 3));
        check.is(50, () -> x.bestHome(14));
        // and nothing of a guard who is no longer there sticks to the new one
        x.addGuard(50, 20, NONE);
        check.is(NONE, x::daysToOpen);
        x.undo();
        check.is(50, () -> x.bestHome(14));
        x.addGuard(50, 20, NONE);
        check.is(2, () -> x.missed(1, 14));
        x.undo();
        check.is(50, () -> x.bestHome(14));
    }

    private void bothSessionsTogether() {
        CrossingPosts x = new CrossingPosts();
        x.addPost(0, 1);
        x.addPost(99, 3);
        check.is(79, () -> x.bestHome(0));
        CrossingPosts y = new CrossingPosts();
        y.addPost(0, 1);
        y.addPost(30, 2);
        check.is(10, () -> y.bestHome(0));
        CrossingPosts z = new CrossingPosts();
        z.addPost(60, 2);
        check.is(40, () -> z.bestHome(0));
        z.setNeeds(0, 1);
        check.is(40, () -> z.bestHome(0));
        z.setNeeds(0, 4);
        check.is(0, () -> z.bestHome(0));
        // as by open(), the second session counts though the first one is over
        x.step();
        check.is(79, () -> x.bestHome(0));
    }

    private void bestHomeWithTenGuards() {
        CrossingPosts x = street(at(50), at(0, 0, 0, 0, 0, 0, 0, 0, 0), 0);
        check.is(30, () -> x.bestHome(0));
        x.addGuard(0, 0, NONE);
        state(x, () -> x.bestHome(0));
        argument(x, () -> x.bestHome(-1));
        argument(x, () -> x.bestHome(3001));
    }

    private void bestHomeAsByOpen() {
        // without a priority, a new guard with home 40 is taken for post 0, and post 1 has nobody
        CrossingPosts x = street(at(40, 60), at(41), 1);
        check.is(41, () -> x.bestHome(0));
        x.step();
        x.complain(1);
        check.is(40, () -> x.bestHome(0));
        check.is(40, () -> x.bestHome(3000));
        // sick on day 0: either post, and post 0 has the lower home
        x.sick(0, 1);
        check.is(20, () -> x.bestHome(0));
        check.is(40, () -> x.bestHome(1));
    }

    // ---- promise 22: filled

    private void noneWasNeeded() {
        CrossingPosts x = street(at(10));
        check.is(1.0, x::filled);
        x.setNeeds(0, 0);
        x.step();
        check.is(1.0, x::filled);
        goTo(x, 5);
        x.setNeeds(0, ALL);
        x.pass(2);
        check.is(1.0, x::filled);
        x.step();
        check.is(0.0, x::filled);
    }

    private void shareOfNeeded() {
        CrossingPosts x = street(at(10, 20, 30), at(10), 0);
        x.step();
        check.is(1.0 / 3.0, x::filled);
        x.setNeeds(1, 0);
        x.step();
        check.is(2.0 / 5.0, x::filled);
        x.setNeeds(2, 0);
        x.step();
        check.is(3.0 / 6.0, x::filled);
        CrossingPosts all = street(at(10), at(10), 0);
        all.pass(60);
        check.is(1.0, all::filled);
    }

    // ---- promise 27: digest

    private static long digestOf(CrossingPosts x, int length, int saved) {
        long h = 31 * 3617L + length;
        for (int what = 0; what <= 10; what++) h = 31 * h + x.value(what);
        for (int i = 0; i < x.value(0); i++) {
            h = 31 * h + x.holiday(i, false);
            h = 31 * h + x.holiday(i, true);
        }
        for (int p = 0; p < x.value(1); p++) {
            for (int what = 0; what <= 8; what++) h = 31 * h + x.post(p, what);
        }
        for (int g = 0; g < x.value(2); g++) {
            for (int what = 0; what <= 10; what++) h = 31 * h + x.guard(g, what);
        }
        return 31 * h + saved;
    }

    private void digestIs(CrossingPosts x, int length, int saved) {
        check.is(digestOf(x, length, saved), x::digest);
    }

    private void digestOfNewObject() {
        long h = 3617;
        for (int i = 0; i < 13; i++) h *= 31;
        long due = h;
        check.is(due, () -> new CrossingPosts().digest());
    }

    private void digestOfTheText() {
        CrossingPosts x = new CrossingPosts();
        for (int length = 0; length <= 90; length++) {
            digestIs(x, length, 0);
            if (length < 90) x.append('d');
        }
        // the bytes do not matter, only how many
        x.clearText();
        x.append('s');
        long due = digestOf(x, 1, 0);
        check.is(due, x::digest);
    }

    private void digestOfSavedStates() {
        CrossingPosts x = new CrossingPosts();
        for (int calls = 1; calls <= 6; calls++) {
            x.addPost(calls, calls);
            digestIs(x, 0, Math.min(4, calls));
        }
        for (int saved = 3; saved >= 0; saved--) {
            x.undo();
            digestIs(x, 0, saved);
        }
    }

    private void digestOfBusyRoad() {
        CrossingPosts x = busyRoad();
        digestIs(x, 0, 4);
        x.pass(30);
        digestIs(x, 0, 4);
        x.undo();
        digestIs(x, 0, 3);
    }

    private void digestOfFullRoad() {
        CrossingPosts x = new CrossingPosts();
        for (int i = 0; i < 6; i++) x.addHoliday(2990 + i, 3000);
        for (int p = 0; p < 8; p++) x.addPost(99, ALL);
        for (int g = 0; g < 10; g++) x.addGuard(0, 99, g < 8 ? 7 - g : NONE);
        x.pass(60);
        x.sick(9, 60);
        for (int i = 0; i < 90; i++) x.append(127);
        digestIs(x, 90, 4);
    }

    private void run() {
        check.test("promise 11: if there is no such post", this::noSuchPost);
        check.test("promise 11: if what is out of range", this::aboutPostInRange);
        check.test("promise 11: a new post", this::newPost);
        check.test("promise 11: 2, NONE without one", this::ownerOfPost);
        check.test("promise 11: 3, how often it was open", this::timesOpen);
        check.test("promise 11: 4, the complaints", this::complaintsOfPost);
        check.test("promise 11: 5, NONE without one", this::latestOpenSession);
        check.test("promise 11: 6, 1 if it has a priority, otherwise 0", this::priorityOfPost);
        check.test("promise 11: 7, NONE without one", this::guardInLatestSession);
        check.test("promise 11: 8, 0 if it was not, 1 to 3", this::reasonInLatestSession);
        check.test("promise 11: 7 and 8 after a session of another day", this::nobodyAfterOtherDays);
        check.test("promise 12: if there is no such guard", this::noSuchGuard);
        check.test("promise 12: if what is out of range", this::aboutGuardInRange);
        check.test("promise 12: 2, NONE without one", this::ownPostOfGuard);
        check.test("promise 12: 6 and 7, sick in the next session", this::sickInTheNextSession);
        check.test("promise 12: 8 and 9, at the own post and at others", this::sessionsAtPosts);
        check.test("promise 12: 10, NONE if the step is 5", this::workUntilTheStepRises);
        check.test("promise 13: if what is out of range", this::valueInRange);
        check.test("promise 13: 0 to 10", this::allValues);
        check.test("promise 13: 3 and 4, at the last day", this::dayAndSessionOfTheNext);
        check.test("promise 13: 5, the sessions of school days", this::schoolSessionsWithoutPosts);
        check.test("promise 13: 10, sick in the next session", this::sickGuards);
        check.test("promise 14: if there is no such holiday", this::noSuchHoliday);
        check.test("promise 14: its last day or its first one", this::firstOrLastDay);
        check.test("promises 15 to 19 and 21: day: 0 to 3000", this::askedDays);
        check.test("promises 15 to 18: session: 0 or 1", this::askedSessions);
        check.test("promises 11 to 22: questions change nothing", this::questionsChangeNothing);
        check.test("promise 15: bit p for post p", this::setOfPosts);
        check.test("promise 15: past days", this::neededOnPastDays);
        check.test("promise 16: sickness as it is known for that day", this::sicknessOfTheAskedDay);
        check.test("promise 16: priorities as in the next session", this::prioritiesOfTheNextSession);
        check.test("promise 16: none on other days", this::openOnOtherDays);
        check.test("promise 16: if it were the next one", this::openAsStepTells);
        check.test("promise 17: if there is no such post", this::standingNoSuchPost);
        check.test("promise 17: NONE if not needed or open", this::standingNone);
        check.test("promise 17: likewise", this::standingAsSessionsTell);
        check.test("promise 18: if what is out of range", this::bestWhat);
        check.test("promise 18: no posts, no guards", this::bestOfNothing);
        check.test("promise 18: guards whose post is needed stand at it", this::bestKeepsOwnPosts);
        check.test("promise 18: others, whose own post is not needed", this::bestWithOwnPostNotNeeded);
        check.test("promise 18: not sick", this::bestWithSickGuards);
        check.test("promise 18: within their reach", this::bestWithinReach);
        check.test("promise 18: at most one at each", this::bestAtMostOneAtEach);
        check.test("promise 18: the fewest posts are open", this::fewestOpenBeforeLeastSum);
        check.test("promise 18: of these the least sum", this::leastSumOfSeveral);
        check.test("promise 18: of all ways", this::chainOfReplacements);
        check.test("promise 18: 8 posts and 10 guards", this::bestOfTheFullRoad);
        check.test("promise 19: if there is no such guard", this::missedNoSuchGuard);
        check.test("promise 19: both sessions together", this::missedInBothSessions);
        check.test("promise 19: 0 if the guard is sick on it anyway", this::missedSickAnyway);
        check.test("promise 19: less that without it", this::missedWithReplacement);
        check.test("promise 19: as by open()", this::missedAsByOpen);
        check.test("promise 20: 0 for the day of the next session", this::zeroForToday);
        check.test("promise 20: at most 60", this::atMostSixtyDays);
        check.test("promise 20: at most 60, from an afternoon on", this::atMostSixtyDaysFromAnAfternoon);
        check.test("promises 19 to 21: holidays", this::holidaysInWhatIf);
        check.test("promise 20: NONE if it is never open", this::neverOpenAtAll);
        check.test("promise 20: the day 3000 does not matter", this::dayThreeThousandDoesNotMatter);
        check.test("promise 20: sickness goes on", this::sicknessGoesOn);
        check.test("promise 20: priorities go on", this::prioritiesGoOn);
        check.test("promise 20: steps go on", this::stepsGoOn);
        check.test("promise 21: with a reach of 20", this::reachOfTwenty);
        check.test("promise 21: of several the lowest one", this::lowestHomeOfSeveral);
        check.test("promise 21: up to home 99", this::lastHome);
        check.test("promise 21: for one guard more", this::oneGuardMore);
        check.test("promise 21: both sessions counted together", this::bothSessionsTogether);
        check.test("promise 21: if there are 10 guards", this::bestHomeWithTenGuards);
        check.test("promise 21: as by open()", this::bestHomeAsByOpen);
        check.test("promise 22: 1.0 if none was", this::noneWasNeeded);
        check.test("promise 22: the share", this::shareOfNeeded);
        check.test("promise 27: a new object", this::digestOfNewObject);
        check.test("promise 27: the length of the text", this::digestOfTheText);
        check.test("promise 27: the number of saved states", this::digestOfSavedStates);
        check.test("promise 27: a road with a bit of all", this::digestOfBusyRoad);
        check.test("promise 27: overflow is ignored", this::digestOfFullRoad);
        check.end();
    }

    public static void main(String[] args) {
        new QuestionsTest().run();
    }
}
