/** What the tests of single cases share: small roads, and the ways to bring them somewhere. */
abstract class Cases {
    static final int NONE = CrossingPosts.NONE;
    static final int ALL = 1023;
    static final int LOW = Integer.MIN_VALUE;
    static final int HIGH = Integer.MAX_VALUE;

    final Check check = new Check();

    /** Posts and guards of a street: the posts are always needed, no guard has a post. */
    static CrossingPosts street(int[] places, int[] homes, int reach) {
        CrossingPosts x = new CrossingPosts();
        for (int place : places) x.addPost(place, ALL);
        for (int home : homes) x.addGuard(home, reach, NONE);
        return x;
    }

    static CrossingPosts street(int[] places) {
        return street(places, new int[0], 0);
    }

    static int[] at(int... numbers) {
        return numbers;
    }

    static void write(CrossingPosts x, String text) {
        x.clearText();
        for (int i = 0; i < text.length(); i++) x.append(text.charAt(i));
    }

    static void steps(CrossingPosts x, int times) {
        for (int i = 0; i < times; i++) x.step();
    }

    /** Brings an object to session 0 of a later day. */
    static void goTo(CrossingPosts x, int day) {
        while (x.value(3) < day) x.pass(Math.min(60, day - x.value(3)));
    }

    static CrossingPosts emptyOn(int day) {
        CrossingPosts x = new CrossingPosts();
        goTo(x, day);
        return x;
    }

    /** Drops the saved states; nothing else changes. There must be a post. */
    static void forgetSaved(CrossingPosts x) {
        for (int i = 0; i < 4; i++) x.setNeeds(0, x.post(0, 1));
        for (int i = 0; i < 4; i++) x.undo();
    }

    /** Holidays, posts, guards, complaints, sickness: the next session is session 1 of day 4. */
    static CrossingPosts busyRoad() {
        CrossingPosts x = street(at(10, 30, 50, 70));
        x.setNeeds(3, 0b0101010101);
        x.addGuard(12, 5, 0);
        x.addGuard(40, 10, NONE);
        x.addGuard(99, 29, 3);
        x.addHoliday(2, 2);
        x.addHoliday(9, 11);
        x.pass(4);
        x.sick(2, 3);
        x.complain(2);
        x.step();
        return x;
    }

    static int openOn(CrossingPosts x, int day) {
        return Integer.bitCount(x.open(day, 0)) + Integer.bitCount(x.open(day, 1));
    }

    /** The call throws, and neither the state nor the number of saved states changes. */
    void refused(String exception, CrossingPosts x, Check.Call call) {
        long before = x.digest();
        check.is("throws " + exception, call);
        check.is(before, x::digest);
    }

    void argument(CrossingPosts x, Check.Call call) {
        refused("IllegalArgumentException", x, call);
    }

    void state(CrossingPosts x, Check.Call call) {
        refused("IllegalStateException", x, call);
    }

    void bounds(CrossingPosts x, Check.Call call) {
        refused("IndexOutOfBoundsException", x, call);
    }

    /** The values of post() for what = 0 to 8. */
    void postIs(CrossingPosts x, int post, int... due) {
        for (int what = 0; what <= 8; what++) {
            int asked = what;
            check.is(due[asked], () -> x.post(post, asked));
        }
    }

    /** The values of guard() for what = 0 to 10. */
    void guardIs(CrossingPosts x, int guard, int... due) {
        for (int what = 0; what <= 10; what++) {
            int asked = what;
            check.is(due[asked], () -> x.guard(guard, asked));
        }
    }

    /** The values of value() for what = 0 to 10. */
    void valuesAre(CrossingPosts x, int... due) {
        for (int what = 0; what <= 10; what++) {
            int asked = what;
            check.is(due[asked], () -> x.value(asked));
        }
    }
}
