/** For each promise of the document: ordinary inputs, its edges, and wrong inputs. */
public final class PromisesTest extends Cases {
    private void newObject() {
        CrossingPosts x = new CrossingPosts();
        for (int what = 0; what <= 10; what++) {
            int asked = what;
            check.is(0, () -> x.value(asked));
        }
        check.is(-1, () -> CrossingPosts.NONE);
        check.is(1.0, x::filled);
        check.is(NONE, x::daysToOpen);
        check.is(0, () -> x.open(0, 0));
        check.state(x::undo);
        check.is(0, x::clearText);
        long h = 3617;
        for (int i = 0; i < 13; i++) h *= 31;
        check.is(h, x::digest);
    }

    private void addHoliday() {
        CrossingPosts x = street(at(10));
        check.argument(() -> x.addHoliday(-1, 0));
        check.argument(() -> x.addHoliday(0, -1));
        check.argument(() -> x.addHoliday(5, 4));
        check.argument(() -> x.addHoliday(3001, 3001));
        check.argument(() -> x.addHoliday(3000, 3001));
        check.argument(() -> x.addHoliday(LOW, HIGH));
        check.is(0, () -> x.addHoliday(8, 9));
        check.is(0, () -> x.needed(8, 0));
        check.is(0, () -> x.needed(9, 1));
        check.is(1, () -> x.needed(7, 1));
        check.is(1, () -> x.needed(10, 0));
        check.is(1, () -> x.addHoliday(0, 3000));
        check.is(0, () -> x.needed(10, 0));
        check.is(2, x::undo);
        check.is(1, () -> x.needed(10, 0));
        check.is(1, () -> x.addHoliday(0, 0));
        check.is(2, () -> x.addHoliday(3000, 3000));
        check.is(3, () -> x.addHoliday(0, 0));
        check.is(4, () -> x.addHoliday(1, 2));
        check.is(5, () -> x.addHoliday(4, 20));
        check.state(() -> x.addHoliday(0, 0));
        check.argument(() -> x.addHoliday(1, 0));
        check.is(6, () -> x.value(0));
    }

    private void addPost() {
        CrossingPosts x = new CrossingPosts();
        check.argument(() -> x.addPost(-1, 0));
        check.argument(() -> x.addPost(100, 0));
        check.argument(() -> x.addPost(0, -1));
        check.argument(() -> x.addPost(0, 1024));
        check.argument(() -> x.addPost(HIGH, LOW));
        for (int p = 0; p < 8; p++) {
            int number = p;
            check.is(number, () -> x.addPost(number == 7 ? 99 : 0, number == 0 ? 0 : ALL));
        }
        check.state(() -> x.addPost(0, 0));
        check.argument(() -> x.addPost(0, 1024));
        check.is(8, () -> x.value(1));
        check.is(254, () -> x.needed(0, 0));
        check.is(3, x::undo);
        check.is(7, () -> x.value(1));
        check.is(7, () -> x.addPost(50, 1));
        check.is(50, () -> x.post(7, 0));
    }

    private void setNeeds() {
        CrossingPosts x = street(at(10, 20));
        check.bounds(() -> x.setNeeds(-1, 0));
        check.bounds(() -> x.setNeeds(2, 0));
        check.bounds(() -> x.setNeeds(2, 1024));
        check.argument(() -> x.setNeeds(1, 1024));
        check.argument(() -> x.setNeeds(1, -1));
        check.is(ALL, () -> x.setNeeds(1, 1 << 5));
        check.is(32, () -> x.setNeeds(1, 32));
        check.is(3, () -> x.needed(2, 1));
        check.is(1, () -> x.needed(2, 0));
        check.is(3, () -> x.needed(9, 1));
        check.is(3, x::undo);
        check.is(2, x::undo);
        check.is(ALL, () -> x.post(1, 1));
        check.is(ALL, () -> x.setNeeds(0, 0));
        check.is(0, () -> x.setNeeds(0, 0));
    }

    private void addGuard() {
        CrossingPosts x = street(at(10, 20));
        check.bounds(() -> x.addGuard(0, 0, 2));
        check.bounds(() -> x.addGuard(100, 0, -2));
        check.argument(() -> x.addGuard(-1, 0, NONE));
        check.argument(() -> x.addGuard(100, 0, NONE));
        check.argument(() -> x.addGuard(0, -1, NONE));
        check.argument(() -> x.addGuard(0, 100, 1));
        check.is(0, () -> x.addGuard(0, 99, 1));
        check.state(() -> x.addGuard(0, 0, 1));
        check.argument(() -> x.addGuard(100, 0, 1));
        check.is(1, () -> x.addGuard(99, 0, 0));
        for (int g = 2; g < 10; g++) {
            int number = g;
            check.is(number, () -> x.addGuard(5, 5, NONE));
        }
        check.state(() -> x.addGuard(5, 5, NONE));
        check.argument(() -> x.addGuard(5, 100, NONE));
        check.bounds(() -> x.addGuard(5, 5, 7));
        check.is(3, x::undo);
        check.is(9, () -> x.value(2));
        check.is(9, () -> x.addGuard(1, 2, NONE));
        check.is(2, () -> x.guard(9, 1));
    }

    private void setPost() {
        CrossingPosts x = street(at(10, 20), at(0, 99), 0);
        check.bounds(() -> x.setPost(2, 0));
        check.bounds(() -> x.setPost(-1, 0));
        check.bounds(() -> x.setPost(0, 2));
        check.bounds(() -> x.setPost(0, -2));
        check.is(NONE, () -> x.setPost(0, 1));
        check.is(1, () -> x.setPost(0, 1));
        check.state(() -> x.setPost(1, 1));
        check.is(1, () -> x.setPost(0, 0));
        check.is(NONE, () -> x.setPost(1, 1));
        check.state(() -> x.setPost(1, 0));
        check.is(0, () -> x.setPost(0, NONE));
        check.is(NONE, () -> x.setPost(0, NONE));
        check.is(3, x::undo);
        check.is(2, x::undo);
        check.is(0, () -> x.guard(0, 2));
        check.is(0, () -> x.open(0, 0));
    }

    private void sick() {
        CrossingPosts x = street(at(10), at(10), 0);
        check.bounds(() -> x.sick(1, 0));
        check.bounds(() -> x.sick(-1, 61));
        check.argument(() -> x.sick(0, -1));
        check.argument(() -> x.sick(0, 61));
        check.is(60, () -> x.sick(0, 60));
        check.is(2, () -> x.sick(0, 2));
        check.is(1, () -> x.open(0, 0));
        check.is(1, () -> x.open(1, 1));
        check.is(0, () -> x.open(2, 0));
        x.step();
        check.is(1, () -> x.sick(0, 1));
        x.step();
        check.is(0, () -> x.guard(0, 6));
        check.is(2, () -> x.sick(0, 1));
        check.is(1, () -> x.guard(0, 6));
        check.is(1, () -> x.sick(0, 0));
        check.is(0, () -> x.guard(0, 6));
        check.is(1, () -> x.guard(0, 7));
        check.is(3, x::undo);
        check.is(2, () -> x.guard(0, 7));
    }

    private void complain() {
        CrossingPosts x = street(at(10, 20));
        check.bounds(() -> x.complain(2));
        check.bounds(() -> x.complain(-1));
        check.state(() -> x.complain(0));
        x.step();
        check.is(1, () -> x.complain(0));
        check.state(() -> x.complain(0));
        x.step();
        check.is(2, () -> x.complain(0));
        check.state(() -> x.complain(0));
        check.is(1, () -> x.complain(1));
        check.is(3, x::undo);
        check.is(1, () -> x.complain(1));
        x.setNeeds(0, 0);
        x.setNeeds(1, 0);
        x.step();
        check.state(() -> x.complain(0));
        check.is(1, () -> x.post(0, 6));
        steps(x, 18);
        check.is(1, () -> x.post(0, 6));
        x.step();
        check.is(0, () -> x.post(0, 6));
        check.is(3, () -> x.value(8));

        CrossingPosts late = street(at(10));
        late.step();
        late.setNeeds(0, 0);
        steps(late, 9);
        late.step();
        check.state(() -> late.complain(0));
        late.undo();
        check.is(1, () -> late.complain(0));
    }

    private void priorities() {
        CrossingPosts x = street(at(10, 12, 14), at(12), 5);
        check.is(6, x::step);
        check.is(0, () -> x.standing(0, 0, 1));
        check.is(1, () -> x.complain(2));
        check.is(3, () -> x.open(0, 1));
        check.is(3, x::step);
        check.is(0, () -> x.post(2, 7));
        check.is(1, () -> x.complain(1));
        check.is(5, x::step);
        x.complain(0);
        check.is(6, x::step);
        check.is(2, () -> x.post(1, 8));
    }

    private void step() {
        CrossingPosts x = street(at(0, 10, 20, 30), at(9, 12, 60), 10);
        x.setPost(2, 3);
        // post 0 takes guard 0 (9 away), post 1 takes guard 1, post 2 stays open
        check.is(4, x::step);
        check.is(0, () -> x.post(0, 7));
        check.is(1, () -> x.post(1, 7));
        check.is(NONE, () -> x.post(2, 7));
        check.is(2, () -> x.post(3, 7));
        check.is(2, () -> x.post(2, 8));
        check.is(11, () -> x.guard(0, 5));
        check.is(10, () -> x.guard(1, 5));
        check.is(10, () -> x.guard(2, 5));
        check.is(1, () -> x.value(4));
        check.is(4, () -> x.value(6));
        check.is(1, () -> x.value(7));
        x.sick(2, 1);
        check.is(12, x::step);
        check.is(2, () -> x.post(3, 8));
        check.is(1, () -> x.value(3));
        x.undo();
        check.is(1, () -> x.value(4));
        goTo(x, 5);
        check.is(0, x::step);
        check.is(0, () -> x.post(2, 8));
        check.is(NONE, () -> x.post(0, 7));
        check.is(9, () -> x.post(2, 5));
        CrossingPosts end = new CrossingPosts();
        goTo(end, 3000);
        check.is(0, end::step);
        check.is(0, end::step);
        check.state(end::step);
        check.is(3001, () -> end.value(3));
    }

    private void reasons() {
        CrossingPosts x = street(at(10));
        x.step();
        check.is(1, () -> x.post(0, 8));
        x.addGuard(31, 20, NONE);
        x.step();
        check.is(3, () -> x.post(0, 8));
        x.addGuard(30, 20, NONE);
        x.step();
        check.is(0, () -> x.post(0, 8));
        check.is(1, () -> x.post(0, 7));
        x.sick(0, 1);
        x.sick(1, 1);
        x.step();
        check.is(1, () -> x.post(0, 8));
        x.sick(0, 0);
        x.addPost(31, ALL);
        x.addPost(31, ALL);
        x.sick(1, 3);
        x.step();
        check.is(3, () -> x.post(0, 8));
        check.is(0, () -> x.post(1, 7));
        check.is(2, () -> x.post(2, 8));
        check.is(0, () -> x.post(1, 8));
    }

    private void steppedPay() {
        CrossingPosts x = street(at(50, 57), at(50, 57), 10);
        x.setPost(0, 0);
        x.setNeeds(1, 0);
        goTo(x, 14);
        check.is(1, () -> x.guard(0, 3));
        check.is(0, () -> x.guard(0, 4));
        check.is(200, () -> x.guard(0, 5));
        x.step();
        check.is(212, () -> x.guard(0, 5));
        check.is(1, () -> x.guard(0, 4));
        x.setPost(0, NONE);
        x.addPost(53, ALL);
        x.addGuard(56, 10, NONE);
        x.setNeeds(0, 0);
        // both guard 0 and guard 2 are 3 away: the lower step comes first
        check.is(2, () -> x.standing(2, 14, 1));
        x.sick(2, 1);
        check.is(0, () -> x.standing(2, 14, 1));
        x.sick(2, 0);
        x.addGuard(56, 10, NONE);
        check.is(2, () -> x.standing(2, 14, 1));
        x.addGuard(55, 10, NONE);
        check.is(4, () -> x.standing(2, 14, 1));

        CrossingPosts old = street(at(0), at(9), 10);
        goTo(old, 14);
        check.is(220, () -> old.guard(0, 5));
        goTo(old, 63);
        check.is(4, () -> old.guard(0, 3));
        goTo(old, 70);
        check.is(5, () -> old.guard(0, 3));
        check.is(NONE, () -> old.guard(0, 10));
        check.is(20 * (11 + 13 + 15 + 17 + 19), () -> old.guard(0, 5));
        goTo(old, 84);
        check.is(5, () -> old.guard(0, 3));
        check.is(0, () -> old.guard(0, 4));
        check.is(1500 + 20 * 21, () -> old.guard(0, 5));
        check.is(120, () -> old.guard(0, 9));
        check.is(0, () -> old.guard(0, 8));
    }

    private void pass() {
        CrossingPosts x = street(at(10, 20), at(10), 5);
        check.argument(() -> x.pass(0));
        check.argument(() -> x.pass(61));
        check.argument(() -> x.pass(LOW));
        check.is(2, () -> x.pass(1));
        check.is(2, () -> x.value(5));
        x.step();
        check.is(1, () -> x.pass(1));
        check.is(2, () -> x.value(3));
        check.is(0, () -> x.value(4));
        check.is(6, () -> x.pass(5));
        check.is(10, () -> x.value(5));
        // 44 school days from day 7, a Monday, to day 66, a Thursday
        check.is(88, () -> x.pass(60));
        check.is(3, x::undo);
        check.is(7, () -> x.value(3));
        CrossingPosts end = new CrossingPosts();
        goTo(end, 2990);
        check.state(() -> end.pass(12));
        check.argument(() -> end.pass(61));
        check.is(2990, () -> end.value(3));
        check.is(0, () -> end.pass(11));
        check.is(3001, () -> end.value(3));
        check.state(() -> end.pass(1));
    }

    private void postValues() {
        CrossingPosts x = street(at(10, 99), at(40), 99);
        x.setNeeds(1, 3);
        check.bounds(() -> x.post(2, 0));
        check.bounds(() -> x.post(-1, 9));
        check.argument(() -> x.post(0, 9));
        check.argument(() -> x.post(0, -1));
        int[] fresh = {99, 3, NONE, 0, 0, NONE, 0, NONE, 0};
        for (int what = 0; what < 9; what++) {
            int asked = what;
            check.is(fresh[asked], () -> x.post(1, asked));
        }
        x.setPost(0, 0);
        x.pass(1);
        x.complain(1);
        int[] later = {99, 3, NONE, 2, 1, 1, 1, NONE, 2};
        for (int what = 0; what < 9; what++) {
            int asked = what;
            check.is(later[asked], () -> x.post(1, asked));
        }
        check.is(0, () -> x.post(0, 2));
        check.is(0, () -> x.post(0, 7));
        x.step();
        check.is(0, () -> x.post(1, 8));
        check.is(2, () -> x.post(1, 3));
    }

    private void guardValues() {
        CrossingPosts x = street(at(10, 40));
        x.addGuard(30, 99, 0);
        check.bounds(() -> x.guard(1, 0));
        check.bounds(() -> x.guard(-1, 11));
        check.argument(() -> x.guard(0, 11));
        check.argument(() -> x.guard(0, -1));
        x.pass(1);
        x.setNeeds(0, 0);
        x.step();
        x.sick(0, 4);
        // twice 10 at the own post, and 10 + 10 / 5 at the other one
        int[] due = {30, 99, 0, 0, 3, 32, 1, 5, 2, 1, 17};
        for (int what = 0; what < 11; what++) {
            int asked = what;
            check.is(due[asked], () -> x.guard(0, asked));
        }
    }

    private void values() {
        CrossingPosts x = street(at(10, 40), at(10, 13), 5);
        check.argument(() -> x.value(-1));
        check.argument(() -> x.value(11));
        x.addHoliday(1, 1);
        x.sick(1, 9);
        x.step();
        x.complain(1);
        x.pass(2);
        x.step();
        // needed: two posts in three sessions; open: post 1 in each
        int[] due = {1, 2, 2, 2, 1, 3, 6, 3, 1, 30, 1};
        for (int what = 0; what < 11; what++) {
            int asked = what;
            check.is(due[asked], () -> x.value(asked));
        }
    }

    private void holiday() {
        CrossingPosts x = new CrossingPosts();
        check.bounds(() -> x.holiday(0, false));
        x.addHoliday(3, 9);
        x.addHoliday(2, 2);
        check.is(3, () -> x.holiday(0, false));
        check.is(9, () -> x.holiday(0, true));
        check.is(2, () -> x.holiday(1, true));
        check.bounds(() -> x.holiday(2, true));
        check.bounds(() -> x.holiday(-1, true));
    }

    private void needed() {
        CrossingPosts x = new CrossingPosts();
        x.addPost(1, 1);
        x.addPost(2, 1 << 9);
        x.addPost(3, 1 << 4 | 1 << 5);
        check.is(1, () -> x.needed(0, 0));
        check.is(0, () -> x.needed(0, 1));
        check.is(2, () -> x.needed(4, 1));
        check.is(4, () -> x.needed(2, 0));
        check.is(4, () -> x.needed(2, 1));
        check.is(0, () -> x.needed(5, 0));
        check.is(0, () -> x.needed(6, 1));
        check.is(2, () -> x.needed(11, 1));
        check.is(2, () -> x.needed(3000, 1));
        check.is(0, () -> x.needed(3000, 0));
        check.argument(() -> x.needed(3001, 0));
        check.argument(() -> x.needed(-1, 0));
        check.argument(() -> x.needed(0, 2));
        check.argument(() -> x.needed(0, -1));
    }

    private void open() {
        CrossingPosts x = street(at(10, 20, 30), at(12), 9);
        check.argument(() -> x.open(3001, 0));
        check.argument(() -> x.open(-1, 0));
        check.argument(() -> x.open(0, 2));
        check.argument(() -> x.open(0, -1));
        check.is(6, () -> x.open(0, 0));
        check.is(6, () -> x.open(2999, 0));
        check.is(0, () -> x.open(5, 0));
        x.sick(0, 3);
        check.is(7, () -> x.open(2, 1));
        check.is(6, () -> x.open(3, 0));
        x.step();
        x.complain(1);
        // the priority of the next session counts for a late day, too
        check.is(5, () -> x.open(2999, 0));
        check.is(7, () -> x.open(0, 0));
        check.is(1, () -> x.value(5));
    }

    private void standing() {
        CrossingPosts x = street(at(10, 20), at(12, 15), 9);
        check.bounds(() -> x.standing(2, 0, 0));
        check.bounds(() -> x.standing(-1, 3001, 0));
        check.argument(() -> x.standing(0, 3001, 0));
        check.argument(() -> x.standing(0, 0, 2));
        check.is(0, () -> x.standing(0, 0, 0));
        check.is(1, () -> x.standing(1, 0, 0));
        check.is(NONE, () -> x.standing(1, 6, 0));
        x.sick(0, 1);
        check.is(1, () -> x.standing(0, 0, 1));
        check.is(NONE, () -> x.standing(1, 0, 1));
        x.setPost(1, 1);
        check.is(1, () -> x.standing(1, 0, 1));
        x.setNeeds(1, 0);
        check.is(1, () -> x.standing(0, 0, 1));
    }

    private void best() {
        // the nearest for post 0 is guard 0, who alone can reach post 1
        CrossingPosts x = street(at(10, 30));
        x.addGuard(12, 18, NONE);
        x.addGuard(4, 6, NONE);
        check.is(2, () -> x.open(0, 0));
        check.is(0, () -> x.best(0, 0, 0));
        check.is(24, () -> x.best(0, 0, 1));
        x.sick(1, 1);
        check.is(1, () -> x.best(0, 0, 0));
        check.is(2, () -> x.best(0, 0, 1));
        check.is(0, () -> x.best(5, 0, 0));
        check.is(0, () -> x.best(5, 0, 1));
        // a guard whose own post is needed stays there
        x.setPost(0, 1);
        check.is(1, () -> x.best(0, 1, 0));
        check.is(0, () -> x.best(0, 1, 1));
        check.argument(() -> x.best(0, 0, 2));
        check.argument(() -> x.best(0, 0, -1));
        check.argument(() -> x.best(3001, 0, 0));
        check.argument(() -> x.best(0, 2, 0));
        CrossingPosts full = street(at(0, 14, 28, 42, 56, 70, 84, 98), at(1, 15, 29, 43, 57, 71, 85, 99, 13, 27), 99);
        check.is(0, () -> full.best(0, 0, 0));
        check.is(8, () -> full.best(0, 0, 1));
    }

    private void bestChoices() {
        // one guard for two posts: the nearer one, whichever its number
        CrossingPosts x = street(at(40, 20, 30), at(28), 15);
        check.is(2, () -> x.best(0, 0, 0));
        check.is(2, () -> x.best(0, 0, 1));
        // nobody reaches post 0
        x.addGuard(0, 39, NONE);
        x.addGuard(99, 58, NONE);
        check.is(1, () -> x.best(0, 0, 0));
        check.is(22, () -> x.best(0, 0, 1));
        x.addGuard(99, 59, NONE);
        check.is(0, () -> x.best(0, 0, 0));
        check.is(81, () -> x.best(0, 0, 1));
        // more posts filled count more than a smaller sum
        CrossingPosts y = street(at(0, 50));
        y.addGuard(0, 99, NONE);
        y.addGuard(99, 99, NONE);
        check.is(0, () -> y.best(0, 0, 0));
        check.is(49, () -> y.best(0, 0, 1));
        y.sick(1, 1);
        check.is(1, () -> y.best(0, 0, 0));
        check.is(0, () -> y.best(0, 0, 1));
        // a guard who stands at the own post, far away, adds nothing
        y.setPost(0, 1);
        check.is(0, () -> y.best(1, 1, 0));
        check.is(99, () -> y.best(1, 1, 1));
    }

    private void missed() {
        CrossingPosts x = street(at(10, 20), at(10, 20, 90), 9);
        check.bounds(() -> x.missed(3, 0));
        check.bounds(() -> x.missed(-1, 3001));
        check.argument(() -> x.missed(0, 3001));
        check.argument(() -> x.missed(0, -1));
        check.is(2, () -> x.missed(0, 0));
        check.is(0, () -> x.missed(2, 0));
        check.is(0, () -> x.missed(0, 5));
        x.setNeeds(0, 1);
        check.is(1, () -> x.missed(0, 0));
        x.sick(0, 2);
        check.is(0, () -> x.missed(0, 0));
        x.addGuard(10, 20, NONE);
        check.is(0, () -> x.missed(0, 2));
        check.is(2, () -> x.guard(0, 7));
        // only the two sessions of the day count
        CrossingPosts near = street(at(10), at(10), 0);
        near.setNeeds(0, 1 << 1 | 1 << 4);
        check.is(0, () -> near.missed(0, 1));
        check.is(1, () -> near.missed(0, 0));
        // without guard 0, nobody is left for post 2
        CrossingPosts own = street(at(10, 20, 30));
        own.addGuard(11, 9, 2);
        own.addGuard(10, 20, NONE);
        check.is(2, () -> own.missed(0, 0));
        check.is(2, () -> own.missed(1, 0));
        check.is(2, () -> own.missed(1, 3000));
    }

    private void daysToOpen() {
        CrossingPosts x = street(at(10), at(10), 0);
        check.is(NONE, x::daysToOpen);
        x.addPost(90, 1 << 9);
        check.is(4, x::daysToOpen);
        goTo(x, 4);
        check.is(0, x::daysToOpen);
        x.step();
        check.is(0, x::daysToOpen);
        x.step();
        check.is(6, x::daysToOpen);
        check.is(5, () -> x.value(3));
        x.addHoliday(5, 64);
        // day 67 is the first Friday behind the holiday
        check.is(NONE, x::daysToOpen);
        x.step();
        check.is(NONE, x::daysToOpen);
        x.pass(2);
        check.is(60, x::daysToOpen);
        x.sick(0, 60);
        check.is(58, x::daysToOpen);
        // a Monday morning, open on day 70 alone: 61 days, 60 days
        CrossingPosts edge = street(at(10));
        edge.setNeeds(0, 1);
        edge.addHoliday(1, 69);
        check.is(0, edge::daysToOpen);
        goTo(edge, 9);
        check.is(NONE, edge::daysToOpen);
        edge.step();
        check.is(NONE, edge::daysToOpen);
        edge.step();
        check.is(60, edge::daysToOpen);
        CrossingPosts end = new CrossingPosts();
        goTo(end, 3000);
        end.pass(1);
        end.addPost(0, 1 << 2);
        // day 3001 is a Saturday, day 3004 the Tuesday behind it
        check.is(3, end::daysToOpen);
    }

    private void daysToOpenGoesOn() {
        // both guards are 2 away from post 0, and guard 1 alone can reach post 1
        CrossingPosts x = street(at(10, 30));
        x.addGuard(12, 9, NONE);
        x.addGuard(8, 22, NONE);
        x.setNeeds(1, 0);
        goTo(x, 7);
        x.setNeeds(1, ALL);
        check.is(10, () -> x.guard(0, 4));
        check.is(0, () -> x.guard(1, 4));
        check.is(0, () -> x.open(7, 0));
        // the step of guard 0 rises on day 11; on day 14 guard 1 is taken for post 0
        check.is(7, x::daysToOpen);
        check.is(10, () -> x.guard(0, 10));
    }

    private void bestHome() {
        CrossingPosts x = street(at(30, 75));
        check.argument(() -> x.bestHome(3001));
        check.argument(() -> x.bestHome(-1));
        check.is(10, () -> x.bestHome(0));
        check.is(0, () -> x.bestHome(5));
        x.setNeeds(0, 1);
        check.is(55, () -> x.bestHome(0));
        x.addGuard(75, 0, 1);
        check.is(10, () -> x.bestHome(0));
        check.is(0, () -> x.bestHome(1));
        check.is(1, () -> x.value(2));
        for (int g = 1; g < 9; g++) x.addGuard(0, 0, NONE);
        check.is(10, () -> x.bestHome(0));
        x.addGuard(0, 0, NONE);
        check.state(() -> x.bestHome(0));
        check.argument(() -> x.bestHome(3001));
        check.is(0, () -> street(at(20)).bestHome(0));
        check.is(1, () -> street(at(21)).bestHome(0));
        check.is(2, () -> street(at(22)).bestHome(0));
        check.is(79, () -> street(at(99)).bestHome(0));
        // nearer homes than 99 take post 0 from guard 0, who cannot reach post 1
        CrossingPosts far = street(at(80, 99), at(62), 18);
        goTo(far, 14);
        check.is(1, () -> far.guard(0, 3));
        check.is(99, () -> far.bestHome(14));
        // the one guard more has step 0 and the highest number
        CrossingPosts y = street(at(50, 80), at(50), 99);
        check.is(60, () -> y.bestHome(0));
        y.setNeeds(1, 0);
        goTo(y, 14);
        y.setNeeds(1, ALL);
        check.is(1, () -> y.guard(0, 3));
        check.is(50, () -> y.bestHome(14));
        // nothing of an earlier guard, or of an earlier question, sticks to it
        y.addGuard(50, 20, NONE);
        check.is(NONE, y::daysToOpen);
        y.undo();
        check.is(50, () -> y.bestHome(14));
        y.addGuard(50, 20, NONE);
        check.is(2, () -> y.missed(1, 14));
        y.undo();
        check.is(50, () -> y.bestHome(14));
        check.is(50, () -> y.bestHome(14));
    }

    private void filled() {
        CrossingPosts x = street(at(10, 20, 30), at(10, 20), 5);
        check.is(1.0, x::filled);
        x.step();
        check.is(2.0 / 3.0, x::filled);
        x.sick(0, 1);
        x.step();
        check.is(0.5, x::filled);
        x.undo();
        check.is(2.0 / 3.0, x::filled);
        CrossingPosts none = street(at(1));
        none.step();
        check.is(0.0, none::filled);
    }

    private void append() {
        CrossingPosts x = new CrossingPosts();
        check.argument(() -> x.append(-1));
        check.argument(() -> x.append(128));
        check.is(1, () -> x.append(0));
        check.is(2, () -> x.append(127));
        for (int i = 3; i <= 90; i++) {
            int due = i;
            check.is(due, () -> x.append('d'));
        }
        check.state(() -> x.append('d'));
        check.argument(() -> x.append(128));
        check.state(x::undo);
    }

    private void clearText() {
        CrossingPosts x = new CrossingPosts();
        write(x, "d1;");
        check.is(3, x::clearText);
        check.is(0, x::clearText);
        check.state(x::undo);
        write(x, "d2;");
        check.is(1, x::carryOut);
        check.is(2, () -> x.value(3));
        check.is(3, x::clearText);
    }

    private void syntax(String text, int position) {
        CrossingPosts x = street(at(10), at(10), 5);
        write(x, text);
        long before = x.digest();
        check.is(-10 - position, x::carryOut);
        check.is(before, x::digest);
    }

    private void syntaxErrors() {
        String[] texts = {"x", "d", "d;", "d0;", "d0", "d00", "d000", "d61;", "d61", "d61x", "d610", "d60", "d1",
            "d1x", "d99", "d 1;", ";", "d1;;", "s", "s,", "s0", "s0;", "s0,", "s0,;", "s0,0;", "s0,5", "s0,61,",
            "s00", "s0,100", "c", "c8", "c;", "c7", "c77", "c0", "d1;d1;c0", "d1; ", "D1;", "d1,", "s:,1;", "s/,1;",
            "c/;", "d:", "d/", "d1:", "d1/"};
        int[] positions = {0, 1, 1, 1, 1, 1, 3, 1, 1, 1, 3, 3, 2,
            2, 1, 1, 0, 3, 1, 1, 2, 2, 3, 3, 3, 4, 3,
            2, 5, 1, 1, 1, 2, 2, 2, 8, 3, 0, 2, 1, 1,
            1, 1, 1, 2, 2};
        for (int i = 0; i < texts.length; i++) syntax(texts[i], positions[i]);
        StringBuilder full = new StringBuilder();
        while (full.length() < 90) full.append("d");
        syntax(full.toString(), 1);
        full.setLength(0);
        while (full.length() < 87) full.append("c0;");
        syntax(full + "d60", 90);
    }

    private void carryOut() {
        CrossingPosts x = street(at(10), at(10), 5);
        check.is(0, x::carryOut);
        check.is(2, x::undo);
        write(x, "d05;s0,7;d60;");
        check.is(3, x::carryOut);
        check.is(65, () -> x.value(3));
        check.is(12, () -> x.guard(0, 7));
        check.is(13, x::clearText);
        CrossingPosts y = street(at(10), at(10), 5);
        write(y, "s0,1;d1;c0;c0;d1;");
        check.is(3, y::carryOut);
        check.is(1, () -> y.value(3));
        check.is(1, () -> y.value(8));
        check.is(2, y::undo);
        check.is(0, () -> y.value(3));
        check.is(0, () -> y.guard(0, 7));
        check.is(17, y::clearText);
        write(y, "s1,1;d1;");
        check.is(0, y::carryOut);
        check.is(2, y::undo);
        write(y, "c1;");
        check.is(0, y::carryOut);
        write(y, "s9,60;");
        check.is(0, y::carryOut);
        write(y, "");
        check.is(0, y::carryOut);
        check.is(3, y::undo);
        CrossingPosts end = new CrossingPosts();
        goTo(end, 2940);
        write(end, "d60;d2;d1;");
        check.is(1, end::carryOut);
        check.is(3000, () -> end.value(3));
        write(end, "d1;d1;");
        check.is(1, end::carryOut);
        check.is(3001, () -> end.value(3));
        CrossingPosts many = new CrossingPosts();
        StringBuilder text = new StringBuilder();
        while (text.length() < 90) text.append("d1;");
        write(many, text.toString());
        check.is(30, many::carryOut);
        check.is(30, () -> many.value(3));
    }

    private void undo() {
        CrossingPosts x = new CrossingPosts();
        check.state(x::undo);
        for (int i = 0; i < 6; i++) x.addPost(i, i);
        check.is(3, x::undo);
        check.is(5, () -> x.value(1));
        check.is(2, x::undo);
        check.is(1, x::undo);
        check.is(0, x::undo);
        check.is(2, () -> x.value(1));
        check.state(x::undo);
        // calls that throw, ask, or write text save nothing
        check.argument(() -> x.addPost(0, 1024));
        x.open(0, 0);
        x.daysToOpen();
        x.append('d');
        check.state(x::undo);
        x.setNeeds(0, 0);
        x.append('1');
        check.is(0, x::undo);
        check.is(2, x::clearText);

        CrossingPosts y = street(at(10, 20), at(10), 5);
        y.addHoliday(3, 3);
        long before = y.digest();
        y.step();
        y.complain(1);
        y.sick(0, 3);
        y.pass(9);
        for (int i = 0; i < 4; i++) y.undo();
        y.addHoliday(3, 3);
        y.undo();
        check.is(0, () -> y.value(3));
        check.is(0, () -> y.post(1, 6));
        check.is(NONE, () -> y.post(1, 5));
        check.is(0, () -> y.guard(0, 5));
        y.setNeeds(0, ALL);
        y.setNeeds(0, ALL);
        y.setNeeds(0, ALL);
        y.setNeeds(0, ALL);
        check.is(before, y::digest);
    }

    /** What is added again after undo has nothing of what was there before. */
    private void addedAgain() {
        CrossingPosts x = new CrossingPosts();
        x.addPost(10, ALL);
        x.step();
        x.complain(0);
        x.step();
        for (int i = 0; i < 4; i++) x.undo();
        x.addPost(11, 7);
        int[] post = {11, 7, NONE, 0, 0, NONE, 0, NONE, 0};
        for (int what = 0; what < 9; what++) {
            int asked = what;
            check.is(post[asked], () -> x.post(0, asked));
        }
        x.setNeeds(0, ALL);
        x.step();
        check.is(1, () -> x.complain(0));

        CrossingPosts y = street(at(10, 20));
        y.addGuard(10, 10, 0);
        y.pass(15);
        y.setNeeds(0, 0);
        y.undo();
        y.undo();
        y.undo();
        y.addGuard(10, 10, 0);
        y.setNeeds(0, 0);
        y.pass(15);
        y.sick(0, 9);
        for (int i = 0; i < 4; i++) y.undo();
        y.addGuard(9, 8, 1);
        int[] guard = {9, 8, 1, 0, 0, 0, 0, 0, 0, 0, 20};
        for (int what = 0; what < 11; what++) {
            int asked = what;
            check.is(guard[asked], () -> y.guard(0, asked));
        }
    }

    private void restored() {
        CrossingPosts x = street(at(10, 20, 30), at(10, 20), 5);
        x.setPost(0, 0);
        x.addHoliday(4, 9);
        x.pass(3);
        x.complain(2);
        long before = x.digest();
        int due = x.open(3, 0);
        x.sick(1, 1);
        x.pass(1);
        x.setPost(0, 1);
        x.setNeeds(2, 0);
        for (int i = 0; i < 4; i++) x.undo();
        check.is(6, () -> x.guard(0, 8));
        check.is(6, () -> x.guard(1, 9));
        check.is(6, () -> x.post(2, 3));
        check.is(5, () -> x.post(2, 5));
        check.is(1, () -> x.post(2, 6));
        check.is(2, () -> x.post(2, 8));
        check.is(due, () -> x.open(3, 0));
        check.state(() -> x.complain(2));
        for (int i = 0; i < 4; i++) x.setNeeds(2, ALL);
        check.is(before, x::digest);
    }

    /** An object with as much in it as there can be. */
    private void full() {
        CrossingPosts x = new CrossingPosts();
        for (int i = 0; i < 6; i++) x.addHoliday(7 * i + 1, 7 * i + 2);
        for (int p = 0; p < 8; p++) x.addPost(11 * p, ALL);
        for (int g = 0; g < 10; g++) x.addGuard(9 * g, 99, g < 8 ? g : NONE);
        check.is(0, x::step);
        check.is(0, () -> x.pass(1));
        check.is(0, () -> x.open(7, 0));
        check.is(0, () -> x.open(8, 0));
        check.is(255, () -> x.needed(7, 1));
        check.is(0, () -> x.best(7, 0, 0));
        check.is(0, () -> x.missed(9, 7));
        check.is(NONE, x::daysToOpen);
        for (int g = 0; g < 10; g++) x.sick(g, 8);
        check.is(0, () -> x.post(7, 8));
        check.is(255, () -> x.open(7, 0));
        check.is(8, () -> x.best(7, 0, 0));
        // days 1 and 2 are a holiday; days 3, 4 and 7 are school days
        check.is(2, x::daysToOpen);
        check.is(48, () -> x.pass(7));
        check.is(1, () -> x.post(7, 8));
        check.is(1, () -> x.complain(7));
        write(x, "c0;c6;s9,2;d1;");
        check.is(4, x::carryOut);
        check.is(9, () -> x.value(3));
        check.is(3, x::undo);
        check.is(8, () -> x.value(3));
        check.is(6, () -> x.value(0));
        check.is(0.25, x::filled);
        check.is(1, () -> x.value(8));
        check.is(160, () -> x.value(9));
        check.is(10, () -> x.value(10));
        check.is(true, () -> x.digest() == x.digest());
    }

    private void digest() {
        CrossingPosts x = street(at(10, 20), at(30), 15);
        x.addHoliday(1, 2);
        x.step();
        x.append('q');
        long h = 3617;
        int[] values = {1,
            1, 2, 1, 0, 1, 1, 2, 1, 0, 12, 0,
            1, 2,
            10, ALL, NONE, 1, 0, 0, 0, NONE, 3,
            20, ALL, NONE, 0, 0, NONE, 0, 0, 0,
            30, 15, NONE, 0, 1, 12, 0, 0, 0, 1, 19,
            4};
        for (int v : values) h = 31 * h + v;
        long due = h;
        check.is(due, x::digest);
        x.undo();
        check.is(true, () -> x.digest() != due);
    }

    private void run() {
        check.title("promise 1");
        newObject();
        check.title("promise 2");
        addHoliday();
        check.title("promise 3");
        addPost();
        check.title("promise 4");
        setNeeds();
        check.title("promise 5");
        addGuard();
        check.title("promise 6");
        setPost();
        check.title("promise 7");
        sick();
        check.title("promise 8");
        complain();
        priorities();
        check.title("promise 9");
        step();
        reasons();
        steppedPay();
        check.title("promise 10");
        pass();
        check.title("promise 11");
        postValues();
        check.title("promise 12");
        guardValues();
        check.title("promise 13");
        values();
        check.title("promise 14");
        holiday();
        check.title("promise 15");
        needed();
        check.title("promise 16");
        open();
        check.title("promise 17");
        standing();
        check.title("promise 18");
        best();
        bestChoices();
        check.title("promise 19");
        missed();
        check.title("promise 20");
        daysToOpen();
        daysToOpenGoesOn();
        check.title("promise 21");
        bestHome();
        check.title("promise 22");
        filled();
        check.title("promise 23");
        append();
        check.title("promise 24");
        clearText();
        check.title("promise 25");
        syntaxErrors();
        carryOut();
        check.title("promise 26");
        undo();
        addedAgain();
        restored();
        full();
        check.title("promise 27");
        digest();
        check.end();
    }

    public static void main(String[] args) {
        new PromisesTest().run();
    }
}
