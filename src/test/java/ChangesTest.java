/** The boundary cases of promises 1 to 10 and 26, with undo and exceptions: a test for each sentence. */
public final class ChangesTest extends Cases {
    // ---- promise 1: a new object

    private void nothingInNewObject() {
        CrossingPosts x = new CrossingPosts();
        valuesAre(x, 0, 0, 0, 0, 0, 0, 0, 0, 0, 0, 0);
        bounds(x, () -> x.holiday(0, false));
        bounds(x, () -> x.post(0, 0));
        bounds(x, () -> x.guard(0, 0));
        state(x, x::undo);
        check.is(0, x::clearText);
        check.is(0, x::step);
    }

    private void objectsOfTheirOwn() {
        CrossingPosts x = busyRoad();
        write(x, "d1;");
        CrossingPosts y = new CrossingPosts();
        valuesAre(y, 0, 0, 0, 0, 0, 0, 0, 0, 0, 0, 0);
        check.is(0, y::clearText);
        check.is(0, () -> y.addPost(99, 0));
        check.is(10, () -> x.post(0, 0));
        check.is(3, x::clearText);
    }

    // ---- promise 2: addHoliday

    private void firstDay() {
        CrossingPosts x = new CrossingPosts();
        argument(x, () -> x.addHoliday(-1, 0));
        argument(x, () -> x.addHoliday(-1, -1));
        argument(x, () -> x.addHoliday(LOW, 0));
        argument(x, () -> x.addHoliday(3001, 3001));
        argument(x, () -> x.addHoliday(HIGH, HIGH));
        check.is(0, () -> x.addHoliday(0, 0));
        check.is(1, () -> x.addHoliday(3000, 3000));
    }

    private void lastDay() {
        CrossingPosts x = new CrossingPosts();
        argument(x, () -> x.addHoliday(5, 4));
        argument(x, () -> x.addHoliday(1, 0));
        argument(x, () -> x.addHoliday(0, -1));
        argument(x, () -> x.addHoliday(3000, 2999));
        argument(x, () -> x.addHoliday(0, 3001));
        argument(x, () -> x.addHoliday(3000, 3001));
        argument(x, () -> x.addHoliday(0, HIGH));
        argument(x, () -> x.addHoliday(0, LOW));
        check.is(0, () -> x.addHoliday(5, 5));
        check.is(1, () -> x.addHoliday(0, 3000));
        check.is(2, () -> x.addHoliday(2999, 3000));
    }

    private void sixHolidays() {
        CrossingPosts x = new CrossingPosts();
        for (int i = 0; i < 6; i++) {
            int number = i;
            check.is(number, () -> x.addHoliday(10, 10 + number));
        }
        state(x, () -> x.addHoliday(10, 10));
        argument(x, () -> x.addHoliday(10, 9));
        argument(x, () -> x.addHoliday(3001, 3001));
        check.is(6, () -> x.value(0));
        check.is(3, x::undo);
        check.is(5, () -> x.addHoliday(20, 20));
        check.is(20, () -> x.holiday(5, true));
    }

    private void holidayNowAndBefore() {
        CrossingPosts x = street(at(10));
        x.pass(3);
        // sessions that took place stay as they were
        x.addHoliday(0, 3);
        check.is(6, () -> x.value(5));
        check.is(6, () -> x.value(6));
        check.is(0, x::step);
        check.is(6, () -> x.value(5));
    }

    // ---- promise 3: addPost

    private void placeOfPost() {
        CrossingPosts x = new CrossingPosts();
        argument(x, () -> x.addPost(-1, 0));
        argument(x, () -> x.addPost(100, 0));
        argument(x, () -> x.addPost(LOW, 0));
        argument(x, () -> x.addPost(HIGH, 0));
        check.is(0, () -> x.addPost(0, 1));
        check.is(1, () -> x.addPost(99, 1));
        check.is(2, () -> x.addPost(99, 1));
        check.is(99, () -> x.post(1, 0));
    }

    private void needsOfPost() {
        CrossingPosts x = new CrossingPosts();
        argument(x, () -> x.addPost(0, -1));
        argument(x, () -> x.addPost(0, 1024));
        argument(x, () -> x.addPost(0, LOW));
        argument(x, () -> x.addPost(0, HIGH));
        check.is(0, () -> x.addPost(0, 0));
        check.is(1, () -> x.addPost(0, 1023));
        check.is(1023, () -> x.post(1, 1));
    }

    private void eightPosts() {
        CrossingPosts x = new CrossingPosts();
        for (int p = 0; p < 8; p++) {
            int number = p;
            check.is(number, () -> x.addPost(9, number));
        }
        state(x, () -> x.addPost(9, 9));
        argument(x, () -> x.addPost(100, 9));
        argument(x, () -> x.addPost(9, 1024));
        check.is(3, x::undo);
        check.is(7, () -> x.addPost(9, 9));
    }

    // ---- promise 4: setNeeds

    private void needsOfNoPost() {
        CrossingPosts none = new CrossingPosts();
        bounds(none, () -> none.setNeeds(0, 0));
        CrossingPosts x = street(at(10, 20));
        bounds(x, () -> x.setNeeds(-1, 0));
        bounds(x, () -> x.setNeeds(2, 0));
        bounds(x, () -> x.setNeeds(LOW, 0));
        bounds(x, () -> x.setNeeds(HIGH, 0));
        bounds(x, () -> x.setNeeds(2, 1024));
        bounds(x, () -> x.setNeeds(-1, -1));
        check.is(ALL, () -> x.setNeeds(1, 0));
    }

    private void needsInRange() {
        CrossingPosts x = street(at(10));
        argument(x, () -> x.setNeeds(0, -1));
        argument(x, () -> x.setNeeds(0, 1024));
        argument(x, () -> x.setNeeds(0, LOW));
        argument(x, () -> x.setNeeds(0, HIGH));
        check.is(1023, () -> x.setNeeds(0, 0));
        check.is(0, () -> x.setNeeds(0, 1023));
        check.is(1023, () -> x.setNeeds(0, 1023));
    }

    // ---- promise 5: addGuard

    private void postOfNewGuard() {
        CrossingPosts none = new CrossingPosts();
        bounds(none, () -> none.addGuard(0, 0, 0));
        check.is(0, () -> none.addGuard(0, 0, NONE));
        CrossingPosts x = street(at(10, 20));
        bounds(x, () -> x.addGuard(0, 0, 2));
        bounds(x, () -> x.addGuard(0, 0, -2));
        bounds(x, () -> x.addGuard(0, 0, LOW));
        bounds(x, () -> x.addGuard(0, 0, HIGH));
        check.is(0, () -> x.addGuard(0, 0, 1));
        check.is(1, () -> x.addGuard(0, 0, 0));
        check.is(0, () -> x.post(1, 2));
    }

    private void homeOfNewGuard() {
        CrossingPosts x = new CrossingPosts();
        argument(x, () -> x.addGuard(-1, 0, NONE));
        argument(x, () -> x.addGuard(100, 0, NONE));
        argument(x, () -> x.addGuard(LOW, 0, NONE));
        argument(x, () -> x.addGuard(HIGH, 0, NONE));
        check.is(0, () -> x.addGuard(0, 5, NONE));
        check.is(1, () -> x.addGuard(99, 5, NONE));
        check.is(99, () -> x.guard(1, 0));
    }

    private void reachOfNewGuard() {
        CrossingPosts x = new CrossingPosts();
        argument(x, () -> x.addGuard(0, -1, NONE));
        argument(x, () -> x.addGuard(0, 100, NONE));
        argument(x, () -> x.addGuard(0, LOW, NONE));
        argument(x, () -> x.addGuard(0, HIGH, NONE));
        check.is(0, () -> x.addGuard(5, 0, NONE));
        check.is(1, () -> x.addGuard(5, 99, NONE));
        check.is(99, () -> x.guard(1, 1));
    }

    private static CrossingPosts tenGuards() {
        CrossingPosts x = street(at(10, 20));
        x.addGuard(5, 5, 0);
        for (int g = 1; g < 10; g++) x.addGuard(5, 5, NONE);
        return x;
    }

    private void tenGuardsThere() {
        CrossingPosts x = tenGuards();
        check.is(10, () -> x.value(2));
        state(x, () -> x.addGuard(5, 5, NONE));
        state(x, () -> x.addGuard(5, 5, 1));
        check.is(3, x::undo);
        check.is(9, () -> x.addGuard(7, 5, 1));
        check.is(7, () -> x.guard(9, 0));
    }

    private void postIsAnothers() {
        CrossingPosts x = street(at(10, 20));
        x.addGuard(5, 5, 0);
        state(x, () -> x.addGuard(5, 5, 0));
        check.is(1, () -> x.addGuard(5, 5, 1));
        state(x, () -> x.addGuard(5, 5, 1));
        x.setPost(0, NONE);
        check.is(2, () -> x.addGuard(5, 5, 0));
    }

    private void addGuardThrowsTheFirst() {
        CrossingPosts x = street(at(10));
        x.addGuard(5, 5, 0);
        bounds(x, () -> x.addGuard(100, 5, 1));
        bounds(x, () -> x.addGuard(5, -1, -2));
        argument(x, () -> x.addGuard(100, 5, 0));
        argument(x, () -> x.addGuard(5, 100, 0));
        CrossingPosts full = tenGuards();
        bounds(full, () -> full.addGuard(5, 5, 2));
        bounds(full, () -> full.addGuard(-1, 100, 2));
        argument(full, () -> full.addGuard(100, 5, NONE));
        argument(full, () -> full.addGuard(5, -1, 0));
        state(full, () -> full.addGuard(5, 5, 0));
    }

    // ---- promise 6: setPost

    private void noSuchGuardOrPost() {
        CrossingPosts none = street(at(10));
        bounds(none, () -> none.setPost(0, 0));
        bounds(none, () -> none.setPost(0, NONE));
        CrossingPosts x = street(at(10, 20), at(5, 6), 5);
        bounds(x, () -> x.setPost(2, 0));
        bounds(x, () -> x.setPost(-1, 0));
        bounds(x, () -> x.setPost(-1, NONE));
        bounds(x, () -> x.setPost(HIGH, NONE));
        bounds(x, () -> x.setPost(LOW, NONE));
        bounds(x, () -> x.setPost(0, 2));
        bounds(x, () -> x.setPost(0, -2));
        bounds(x, () -> x.setPost(0, LOW));
        bounds(x, () -> x.setPost(0, HIGH));
        check.is(NONE, () -> x.setPost(1, 1));
        check.is(NONE, () -> x.setPost(0, 0));
    }

    private void previousPost() {
        CrossingPosts x = street(at(10, 20), at(5), 5);
        check.is(NONE, () -> x.setPost(0, NONE));
        check.is(NONE, () -> x.setPost(0, 0));
        check.is(0, () -> x.setPost(0, 1));
        check.is(1, () -> x.setPost(0, NONE));
        check.is(NONE, () -> x.setPost(0, NONE));
        check.is(NONE, () -> x.post(1, 2));
    }

    private void anothersOwnPost() {
        CrossingPosts x = street(at(10, 20), at(5, 6), 5);
        x.setPost(0, 1);
        state(x, () -> x.setPost(1, 1));
        // the guard's own one is not another's
        check.is(1, () -> x.setPost(0, 1));
        // a guard that is not there comes first
        bounds(x, () -> x.setPost(2, 1));
        bounds(x, () -> x.setPost(-1, 1));
        x.setPost(0, NONE);
        check.is(NONE, () -> x.setPost(1, 1));
        state(x, () -> x.setPost(0, 1));
    }

    // ---- promise 7: sick

    private void sickNoSuchGuard() {
        CrossingPosts x = street(at(10), at(5, 6), 5);
        bounds(x, () -> x.sick(2, 1));
        bounds(x, () -> x.sick(-1, 1));
        bounds(x, () -> x.sick(LOW, 1));
        bounds(x, () -> x.sick(HIGH, 1));
        bounds(x, () -> x.sick(2, 61));
        bounds(x, () -> x.sick(-1, -1));
        check.is(1, () -> x.sick(1, 1));
    }

    private void sickDaysInRange() {
        CrossingPosts x = street(at(10), at(5), 5);
        argument(x, () -> x.sick(0, -1));
        argument(x, () -> x.sick(0, 61));
        argument(x, () -> x.sick(0, LOW));
        argument(x, () -> x.sick(0, HIGH));
        check.is(60, () -> x.sick(0, 60));
        check.is(1, () -> x.open(59, 1));
        check.is(0, () -> x.open(60, 0));
        check.is(0, () -> x.sick(0, 0));
    }

    private void zeroDaysIsWell() {
        CrossingPosts x = street(at(10), at(10), 5);
        x.pass(2);
        x.step();
        x.sick(0, 9);
        check.is(1, () -> x.open(2, 1));
        check.is(2, () -> x.sick(0, 0));
        check.is(0, () -> x.open(2, 1));
        check.is(0, () -> x.guard(0, 6));
        check.is(0, x::step);
    }

    private void inPlaceOfTheFormerReport() {
        CrossingPosts x = street(at(10), at(10), 5);
        check.is(9, () -> x.sick(0, 9));
        check.is(3, () -> x.sick(0, 3));
        check.is(3, () -> x.guard(0, 7));
        check.is(0, () -> x.open(3, 0));
        x.pass(2);
        check.is(4, () -> x.sick(0, 2));
    }

    private void sickBehindTheLastDay() {
        CrossingPosts x = emptyOn(3000);
        x.addGuard(0, 0, NONE);
        check.is(3060, () -> x.sick(0, 60));
        x.pass(1);
        check.is(3061, () -> x.sick(0, 60));
        check.is(1, () -> x.guard(0, 6));
        check.is(3001, () -> x.sick(0, 0));
        check.is(0, () -> x.guard(0, 6));
    }

    // ---- promise 8: complain

    private void complainNoSuchPost() {
        CrossingPosts none = new CrossingPosts();
        bounds(none, () -> none.complain(0));
        CrossingPosts x = street(at(10, 20));
        x.step();
        bounds(x, () -> x.complain(2));
        bounds(x, () -> x.complain(-1));
        bounds(x, () -> x.complain(LOW));
        bounds(x, () -> x.complain(HIGH));
        check.is(1, () -> x.complain(1));
    }

    private void complainThereCanBeNone() {
        CrossingPosts x = street(at(10));
        state(x, () -> x.complain(0));
        x.step();
        check.is(1, () -> x.complain(0));
        state(x, () -> x.complain(0));
        check.is(1, () -> x.post(0, 4));
    }

    private void refusedComplaintChangesNothing() {
        CrossingPosts x = street(at(10));
        x.step();
        x.complain(0);
        x.setNeeds(0, 0);
        goTo(x, 10);
        state(x, () -> x.complain(0));
        // the priority ends with session 20 all the same
        x.step();
        check.is(0, () -> x.post(0, 6));
        x.setNeeds(0, ALL);
        x.step();
        check.is(2, () -> x.complain(0));
    }

    private void complaintsSoFar() {
        CrossingPosts x = street(at(10, 20));
        for (int times = 1; times <= 6; times++) {
            int due = times;
            x.step();
            check.is(due, () -> x.complain(0));
        }
        check.is(1, () -> x.complain(1));
        check.is(7, () -> x.value(8));
    }

    private void complaintAfterUndo() {
        CrossingPosts x = street(at(10));
        x.step();
        x.complain(0);
        x.undo();
        check.is(0, () -> x.post(0, 6));
        check.is(1, () -> x.complain(0));
        x.undo();
        x.undo();
        state(x, () -> x.complain(0));
    }

    // ---- promise 9: step

    private void openPostsAsSet() {
        CrossingPosts x = street(at(0, 1, 2, 3, 4, 5, 6, 7));
        check.is(255, x::step);
        x.addGuard(7, 0, NONE);
        check.is(127, x::step);
        for (int p = 0; p < 7; p++) x.setNeeds(p, 0);
        check.is(0, x::step);
        x.sick(0, 60);
        check.is(128, x::step);
    }

    private void stepBehindTheLastDay() {
        CrossingPosts x = emptyOn(3000);
        x.addPost(10, ALL);
        check.is(1, x::step);
        check.is(1, x::step);
        check.is(3001, () -> x.value(3));
        check.is(0, () -> x.value(4));
        state(x, x::step);
        check.is(3, x::undo);
        check.is(3000, () -> x.value(3));
        check.is(1, () -> x.value(4));
        check.is(1, x::step);
        state(x, x::step);
    }

    // ---- promise 10: pass

    private void daysToPass() {
        CrossingPosts x = new CrossingPosts();
        argument(x, () -> x.pass(0));
        argument(x, () -> x.pass(61));
        argument(x, () -> x.pass(-1));
        argument(x, () -> x.pass(LOW));
        argument(x, () -> x.pass(HIGH));
        check.is(0, () -> x.pass(1));
        check.is(1, () -> x.value(3));
        check.is(0, () -> x.pass(60));
        check.is(61, () -> x.value(3));
    }

    private void passFromTheMorning() {
        CrossingPosts x = street(at(10));
        check.is(2, () -> x.pass(1));
        check.is(1, () -> x.value(3));
        check.is(0, () -> x.value(4));
        check.is(4, () -> x.pass(2));
        check.is(3, () -> x.value(3));
    }

    private void passFromTheAfternoon() {
        CrossingPosts x = street(at(10));
        x.step();
        check.is(1, () -> x.pass(1));
        check.is(1, () -> x.value(3));
        check.is(0, () -> x.value(4));
        x.step();
        check.is(3, () -> x.pass(2));
        check.is(3, () -> x.value(3));
        check.is(0, () -> x.value(4));
    }

    private void howOftenOpen() {
        CrossingPosts x = street(at(10, 20, 30), at(10), 0);
        // five school days of the week, two posts in each session
        check.is(20, () -> x.pass(7));
        x.setNeeds(2, 1 << 2);
        check.is(10 + 1, () -> x.pass(7));
        x.addHoliday(14, 80);
        check.is(0, () -> x.pass(60));
    }

    private void passBehindTheLastDay() {
        CrossingPosts x = emptyOn(2941);
        check.is(0, () -> x.pass(60));
        check.is(3001, () -> x.value(3));
        state(x, () -> x.pass(1));
        state(x, () -> x.pass(60));
        CrossingPosts y = emptyOn(2942);
        state(y, () -> y.pass(60));
        check.is(0, () -> y.pass(59));
        CrossingPosts z = emptyOn(3000);
        state(z, () -> z.pass(2));
        z.step();
        state(z, () -> z.pass(2));
        check.is(0, () -> z.pass(1));
        check.is(3001, () -> z.value(3));
    }

    private void passThrowsTheFirst() {
        CrossingPosts x = emptyOn(3000);
        argument(x, () -> x.pass(61));
        x.pass(1);
        argument(x, () -> x.pass(61));
        argument(x, () -> x.pass(0));
        argument(x, () -> x.pass(HIGH));
        state(x, () -> x.pass(1));
    }

    // ---- undo

    /** A road without saved states on which each undoable call is possible. */
    private static CrossingPosts roadToChange() {
        CrossingPosts x = street(at(10, 20), at(10), 5);
        x.step();
        write(x, "d1;");
        forgetSaved(x);
        return x;
    }

    private void saves(CrossingPosts x, Check.Call call) {
        long before = x.digest();
        call.answer();
        check.is(0, x::undo);
        check.is(before, x::digest);
        state(x, x::undo);
    }

    private void undoableCalls() {
        CrossingPosts x = roadToChange();
        saves(x, () -> x.addHoliday(0, 0));
        saves(x, () -> x.addPost(0, 0));
        saves(x, () -> x.setNeeds(0, 1));
        saves(x, () -> x.addGuard(0, 0, NONE));
        saves(x, () -> x.setPost(0, 1));
        saves(x, () -> x.sick(0, 5));
        saves(x, () -> x.complain(1));
        saves(x, x::step);
        saves(x, () -> x.pass(60));
        saves(x, x::carryOut);
    }

    private void savedIfNothingChanges() {
        CrossingPosts x = roadToChange();
        saves(x, () -> x.setNeeds(0, ALL));
        saves(x, () -> x.setPost(0, NONE));
        saves(x, () -> x.sick(0, 0));
        x.clearText();
        saves(x, x::carryOut);
        x.setPost(0, 1);
        forgetSaved(x);
        saves(x, () -> x.setPost(0, 1));
    }

    private void otherCallsSaveNothing() {
        CrossingPosts x = roadToChange();
        x.addHoliday(50, 50);
        forgetSaved(x);
        x.post(0, 0);
        x.guard(0, 0);
        x.value(0);
        x.holiday(0, true);
        x.needed(0, 0);
        x.open(0, 0);
        x.standing(0, 0, 0);
        x.best(0, 0, 0);
        x.missed(0, 0);
        x.daysToOpen();
        x.bestHome(0);
        x.filled();
        x.append('d');
        x.clearText();
        x.digest();
        state(x, x::undo);
    }

    private void refusedCallsSaveNothing() {
        CrossingPosts x = roadToChange();
        argument(x, () -> x.addHoliday(-1, 0));
        argument(x, () -> x.addPost(-1, 0));
        bounds(x, () -> x.setNeeds(2, 0));
        argument(x, () -> x.setNeeds(0, -1));
        bounds(x, () -> x.addGuard(0, 0, 2));
        argument(x, () -> x.addGuard(0, -1, NONE));
        bounds(x, () -> x.setPost(1, 0));
        argument(x, () -> x.sick(0, 61));
        state(x, () -> x.complain(0));
        argument(x, () -> x.pass(0));
        write(x, "d");
        check.is(-11, x::carryOut);
        state(x, x::undo);
    }

    private void atMostFourSaved() {
        CrossingPosts x = new CrossingPosts();
        for (int p = 0; p < 4; p++) x.addPost(p, 0);
        for (int remain = 3; remain >= 0; remain--) {
            int due = remain;
            check.is(due, x::undo);
            check.is(due, () -> x.value(1));
        }
        state(x, x::undo);
    }

    private void oldestIsDropped() {
        CrossingPosts x = new CrossingPosts();
        for (int p = 0; p < 5; p++) x.addPost(p, 0);
        for (int remain = 3; remain >= 0; remain--) {
            int due = remain;
            check.is(due, x::undo);
            check.is(due + 1, () -> x.value(1));
        }
        state(x, x::undo);
        check.is(1, () -> x.value(1));
        check.is(0, () -> x.post(0, 0));
    }

    private void savedAgainAfterUndo() {
        CrossingPosts x = street(at(10));
        for (int needs = 1; needs <= 9; needs++) x.setNeeds(0, needs);
        check.is(3, x::undo);
        check.is(2, x::undo);
        x.setNeeds(0, 70);
        x.setNeeds(0, 80);
        x.setNeeds(0, 90);
        // of 5, 6, 7, 70 and 80, the states before the calls, 5 is dropped
        int[] due = {80, 70, 7, 6};
        for (int i = 0; i < 4; i++) {
            int needs = due[i];
            check.is(3 - i, x::undo);
            check.is(needs, () -> x.post(0, 1));
        }
        state(x, x::undo);
    }

    private void undoIsNotUndoable() {
        CrossingPosts x = new CrossingPosts();
        x.addPost(1, 1);
        x.addPost(2, 2);
        check.is(1, x::undo);
        check.is(0, x::undo);
        state(x, x::undo);
    }

    private void everythingButTheText() {
        CrossingPosts x = busyRoad();
        x.pass(4);
        x.complain(1);
        int[] post = new int[9];
        int[] guard = new int[11];
        int[] values = new int[11];
        for (int what = 0; what <= 8; what++) post[what] = x.post(1, what);
        for (int what = 0; what <= 10; what++) {
            guard[what] = x.guard(0, what);
            values[what] = x.value(what);
        }
        write(x, "x");
        x.addHoliday(40, 45);
        x.addPost(5, 5);
        x.pass(20);
        write(x, "s0,5;d1;");
        check.is(2, x::carryOut);
        for (int remain = 3; remain >= 0; remain--) x.undo();
        postIs(x, 1, post);
        guardIs(x, 0, guard);
        valuesAre(x, values);
        bounds(x, () -> x.post(4, 0));
        bounds(x, () -> x.holiday(2, false));
        // there was a complaint about post 1 just before
        state(x, () -> x.complain(1));
        check.is(8, x::clearText);
    }

    private void changedAndRestored() {
        CrossingPosts x = street(at(10, 20), at(10), 5);
        x.setPost(0, 1);
        x.setNeeds(0, 7);
        x.sick(0, 9);
        x.setPost(0, 0);
        x.setNeeds(0, 1);
        x.sick(0, 1);
        check.is(3, x::undo);
        check.is(9, () -> x.guard(0, 7));
        check.is(2, x::undo);
        check.is(7, () -> x.post(0, 1));
        check.is(1, x::undo);
        check.is(1, () -> x.guard(0, 2));
        check.is(0, x::undo);
        check.is(0, () -> x.guard(0, 7));
    }

    /** What is added anew has nothing of what was undone. */
    private void addedAnew() {
        CrossingPosts x = new CrossingPosts();
        x.addPost(10, ALL);
        x.step();
        x.complain(0);
        x.step();
        for (int i = 0; i < 4; i++) x.undo();
        x.addPost(11, 7);
        postIs(x, 0, 11, 7, NONE, 0, 0, NONE, 0, NONE, 0);
        x.step();
        check.is(1, () -> x.complain(0));

        CrossingPosts y = street(at(10, 20));
        y.addGuard(10, 10, 0);
        y.pass(16);
        y.setPost(0, NONE);
        y.pass(15);
        y.undo();
        y.undo();
        y.sick(0, 9);
        for (int i = 0; i < 3; i++) y.undo();
        y.addGuard(9, 8, 1);
        guardIs(y, 0, 9, 8, 1, 0, 0, 0, 0, 0, 0, 0, 20);
    }

    private void holidayAddedAnew() {
        CrossingPosts x = street(at(10));
        x.addHoliday(0, 1);
        x.addHoliday(2, 4);
        x.undo();
        check.is(1, () -> x.needed(2, 0));
        x.addHoliday(3, 3);
        check.is(1, () -> x.needed(2, 0));
        check.is(0, () -> x.needed(3, 0));
        check.is(1, () -> x.needed(4, 0));
        check.is(0, () -> x.needed(0, 0));
    }

    private void noSavedState() {
        CrossingPosts x = new CrossingPosts();
        state(x, x::undo);
        x.addPost(1, 1);
        check.is(0, x::undo);
        state(x, x::undo);
    }

    private void run() {
        check.test("promise 1: without holidays, posts and guards", this::nothingInNewObject);
        check.test("promise 1: each object has its own", this::objectsOfTheirOwn);
        check.test("promise 2: first: 0 to 3000", this::firstDay);
        check.test("promise 2: last: first to 3000", this::lastDay);
        check.test("promise 2: if there are 6 holidays", this::sixHolidays);
        check.test("promise 2: what took place stays", this::holidayNowAndBefore);
        check.test("promise 3: place: 0 to 99", this::placeOfPost);
        check.test("promise 3: needs: 0 to 1023", this::needsOfPost);
        check.test("promise 3: if there are 8 posts", this::eightPosts);
        check.test("promise 4: if there is no such post", this::needsOfNoPost);
        check.test("promise 4: needs: 0 to 1023", this::needsInRange);
        check.test("promise 5: the guard's own post, or NONE", this::postOfNewGuard);
        check.test("promise 5: home: 0 to 99", this::homeOfNewGuard);
        check.test("promise 5: reach: 0 to 99", this::reachOfNewGuard);
        check.test("promise 5: if there are 10 guards", this::tenGuardsThere);
        check.test("promise 5: or the post is another guard's own", this::postIsAnothers);
        check.test("promise 5: the exception that is listed first", this::addGuardThrowsTheFirst);
        check.test("promise 6: if there is no such guard or post", this::noSuchGuardOrPost);
        check.test("promise 6: returns the previous post, or NONE", this::previousPost);
        check.test("promise 6: if the post is another guard's own", this::anothersOwnPost);
        check.test("promise 7: if there is no such guard", this::sickNoSuchGuard);
        check.test("promise 7: days: 0 to 60", this::sickDaysInRange);
        check.test("promise 7: 0: the guard is well", this::zeroDaysIsWell);
        check.test("promise 7: in place of what was reported before", this::inPlaceOfTheFormerReport);
        check.test("promise 7: at the end of the days", this::sickBehindTheLastDay);
        check.test("promise 8: if there is no such post", this::complainNoSuchPost);
        check.test("promise 8: if there can be none", this::complainThereCanBeNone);
        check.test("promise 8: a refused complaint changes nothing", this::refusedComplaintChangesNothing);
        check.test("promise 8: returns the complaints about it so far", this::complaintsSoFar);
        check.test("promise 8: undone and filed again", this::complaintAfterUndo);
        check.test("promise 9: the open posts, as a set", this::openPostsAsSet);
        check.test("promise 9: if the day is above 3000", this::stepBehindTheLastDay);
        check.test("promise 10: days: 1 to 60", this::daysToPass);
        check.test("promise 10: until the first session of a later day", this::passFromTheMorning);
        check.test("promise 10: from an afternoon on", this::passFromTheAfternoon);
        check.test("promise 10: returns how often a post was open", this::howOftenOpen);
        check.test("promise 10: if a day above 3000 would take place", this::passBehindTheLastDay);
        check.test("promise 10: the exception that is listed first", this::passThrowsTheFirst);
        check.test("undo: each successful undoable call", this::undoableCalls);
        check.test("undo: even if the call changes nothing", this::savedIfNothingChanges);
        check.test("undo: other calls save nothing", this::otherCallsSaveNothing);
        check.test("undo: refused calls save nothing", this::refusedCallsSaveNothing);
        check.test("undo: at most 4 states are saved", this::atMostFourSaved);
        check.test("undo: the oldest is dropped first", this::oldestIsDropped);
        check.test("undo: saved again afterwards", this::savedAgainAfterUndo);
        check.test("promise 26: removes the state, and saves none", this::undoIsNotUndoable);
        check.test("undo: everything except the text", this::everythingButTheText);
        check.test("promise 26: the most recently saved state", this::changedAndRestored);
        check.test("promise 26: what is added anew", this::addedAnew);
        check.test("promise 26: a holiday that is added anew", this::holidayAddedAnew);
        check.test("promise 26: if there is no saved state", this::noSavedState);
        check.end();
    }

    public static void main(String[] args) {
        new ChangesTest().run();
    }
}
