/** The boundary cases of the text and of its calls, promises 23 to 25: a test for each sentence. */
public final class TextTest extends Cases {
    /** A road on which every order is possible once: 8 posts are open, 10 guards are there. */
    private static CrossingPosts wideRoad() {
        CrossingPosts x = street(at(0, 1, 2, 3, 4, 5, 6, 7));
        for (int g = 0; g < 10; g++) x.addGuard(99, 0, NONE);
        x.step();
        return x;
    }

    private void right(String text, int orders) {
        CrossingPosts x = wideRoad();
        write(x, text);
        check.is(orders, x::carryOut);
    }

    private void wrong(String text, int position) {
        CrossingPosts x = wideRoad();
        write(x, text);
        long before = x.digest();
        check.is(-10 - position, x::carryOut);
        check.is(before, x::digest);
    }

    private static String repeated(String part, int length) {
        StringBuilder text = new StringBuilder();
        while (text.length() < length) text.append(part);
        return text.toString();
    }

    // ---- the text of "Terms"

    private void atMostNinetyBytes() {
        CrossingPosts x = new CrossingPosts();
        for (int length = 1; length <= 90; length++) {
            int due = length;
            check.is(due, () -> x.append(';'));
        }
        state(x, () -> x.append(';'));
        check.is(90, x::clearText);
    }

    private void eachEndsWithSemicolon() {
        right("d1;", 1);
        right("d1;s0,1;c0;", 3);
        wrong("d1", 2);
        wrong("d1d1;", 2);
        wrong("d1,", 2);
        wrong("c0c1;", 2);
        wrong("c0:", 2);
        wrong("s0,1s1,1;", 4);
        wrong("s0,12,", 5);
        wrong("d12<", 3);
    }

    private void knownOrdersAlone() {
        wrong("x", 0);
        wrong(";", 0);
        wrong("d1;;", 3);
        wrong("1;", 0);
        wrong(",", 0);
        wrong("D1;", 0);
        wrong("S0,1;", 0);
        wrong("C0;", 0);
        wrong("b0;", 0);
        wrong("e1;", 0);
        wrong("r0,1;", 0);
        wrong("t0,1;", 0);
        wrong("\0", 0);
        wrong("\u007f", 0);
        wrong("d1;x", 3);
    }

    private void oneOrTwoDigits() {
        right("d1;", 1);
        right("d9;", 1);
        right("d01;", 1);
        right("d09;", 1);
        right("d10;", 1);
        right("d59;", 1);
        wrong("d;", 1);
        wrong("d100;", 3);
        wrong("d001;", 3);
        wrong("d/;", 1);
        wrong("d:;", 1);
        wrong("d-1;", 1);
        wrong("d+1;", 1);
        wrong("d1/;", 2);
        wrong("d1:;", 2);
    }

    private void twoDigitsAreTensAndOnes() {
        CrossingPosts x = new CrossingPosts();
        write(x, "d09;");
        check.is(1, x::carryOut);
        check.is(9, () -> x.value(3));
        write(x, "d10;");
        check.is(1, x::carryOut);
        check.is(19, () -> x.value(3));
        write(x, "d42;d1;");
        check.is(2, x::carryOut);
        check.is(62, () -> x.value(3));
    }

    private void daysInRange() {
        right("d1;d60;d01;", 3);
        wrong("d0;", 1);
        wrong("d00;", 1);
        wrong("d61;", 1);
        wrong("d70;", 1);
        wrong("d99;", 1);
    }

    private void guardDigit() {
        for (int g = 0; g <= 9; g++) right("s" + g + ",1;", 1);
        wrong("s;", 1);
        wrong("s/,1;", 1);
        wrong("s:,1;", 1);
        wrong("s,1;", 1);
        wrong("sd,1;", 1);
        wrong("s10,1;", 2);
        wrong("s00,1;", 2);
    }

    private void commaBehindTheGuard() {
        wrong("s0;1;", 2);
        wrong("s0-1;", 2);
        wrong("s0+1;", 2);
        wrong("s01;", 2);
        wrong("s0,,1;", 3);
    }

    private void sickDaysLikewise() {
        right("s0,1;s0,60;s0,01;s0,09;", 4);
        wrong("s0,;", 3);
        wrong("s0,0;", 3);
        wrong("s0,00;", 3);
        wrong("s0,61;", 3);
        wrong("s0,99;", 3);
        wrong("s0,100;", 5);
        wrong("s0,001;", 5);
        wrong("s9,6:;", 4);
    }

    private void postDigit() {
        right("c0;c1;c2;c3;c4;c5;c6;c7;", 8);
        wrong("c8;", 1);
        wrong("c9;", 1);
        wrong("c/;", 1);
        wrong("c;", 1);
        wrong("c,;", 1);
        wrong("c00;", 2);
        wrong("c71;", 2);
    }

    private void noSpaces() {
        wrong(" ", 0);
        wrong(" d1;", 0);
        wrong("d 1;", 1);
        wrong("d1 ;", 2);
        wrong("d1; ", 3);
        wrong("s 0,1;", 1);
        wrong("s0 ,1;", 2);
        wrong("s0, 1;", 3);
        wrong("s0,1 ;", 4);
        wrong("c 0;", 1);
        wrong("c0 ;", 2);
        wrong("c0;\n", 3);
        wrong("c0;\t", 3);
    }

    private void noOrders() {
        CrossingPosts x = new CrossingPosts();
        check.is(0, x::carryOut);
        x.append('d');
        x.clearText();
        check.is(0, x::carryOut);
    }

    private void firstWrongByte() {
        wrong("xy", 0);
        wrong("d1;x;y", 3);
        wrong("c8;d61;", 1);
        wrong("d1;c8;d61;", 4);
        wrong("d61;c8;", 1);
        wrong("d1;d61;x", 4);
        wrong("d1;s0,1;c0;s0,77;", 14);
        wrong(repeated("c0;", 87) + "c0,", 89);
        wrong(repeated("d", 90), 1);
    }

    private void digitTooMany() {
        wrong("d123;", 3);
        wrong("d000", 3);
        wrong("d610", 3);
        wrong("d999", 3);
        wrong("d111", 3);
        wrong("s0,123;", 5);
        wrong("s0,000", 5);
        wrong("s0,610", 5);
        wrong("s12,", 2);
        wrong("c12;", 2);
    }

    private void endsTooEarly() {
        wrong("d", 1);
        wrong("d1", 2);
        wrong("d60", 3);
        wrong("s", 1);
        wrong("s0", 2);
        wrong("s0,", 3);
        wrong("s0,5", 4);
        wrong("s0,60", 5);
        wrong("c", 1);
        wrong("c7", 2);
        wrong("d1;d", 4);
        wrong("d1;s1,1;c", 9);
        wrong(repeated("c0;", 87) + "d60", 90);
        wrong(repeated("c0;", 87) + "s0,", 90);
    }

    private void outOfRangeBeforeAnyByte() {
        String[] others = {";", ",", "x", "d", "s", "c", " ", "/", ":", "\0", "\u007f"};
        for (String other : others) {
            wrong("d0" + other, 1);
            wrong("d00" + other, 1);
            wrong("d61" + other, 1);
            wrong("s0,0" + other, 3);
            wrong("s0,99" + other, 3);
            wrong("c0;d0" + other, 4);
        }
    }

    private void outOfRangeAtTheEnd() {
        wrong("d0", 1);
        wrong("d00", 1);
        wrong("d61", 1);
        wrong("s0,0", 3);
        wrong("s0,00", 3);
        wrong("s0,61", 3);
        wrong("d1;d99", 4);
        wrong(repeated("c0;", 87) + "d61", 88);
        // one digit that is in the range is none too few
        wrong("d6", 2);
        wrong("s0,7", 4);
    }

    // ---- promise 23: append

    private void bytesInRange() {
        CrossingPosts x = new CrossingPosts();
        argument(x, () -> x.append(-1));
        argument(x, () -> x.append(128));
        argument(x, () -> x.append(LOW));
        argument(x, () -> x.append(HIGH));
        argument(x, () -> x.append('d' + 256));
        check.is(1, () -> x.append(0));
        check.is(2, () -> x.append(127));
    }

    private void newLength() {
        CrossingPosts x = new CrossingPosts();
        check.is(1, () -> x.append('d'));
        check.is(2, () -> x.append('1'));
        check.is(3, () -> x.append(';'));
        x.clearText();
        check.is(1, () -> x.append('d'));
    }

    private void fullText() {
        CrossingPosts x = wideRoad();
        write(x, repeated("c0;", 90));
        state(x, () -> x.append(';'));
        state(x, () -> x.append(0));
        // of both exceptions the one that is listed first
        argument(x, () -> x.append(128));
        argument(x, () -> x.append(-1));
        // the full text is as it was
        check.is(1, x::carryOut);
        check.is(90, x::clearText);
        check.is(1, () -> x.append(0));
    }

    private void appendIsNotUndoable() {
        CrossingPosts x = new CrossingPosts();
        x.append('d');
        state(x, x::undo);
        x.addPost(10, ALL);
        x.append('1');
        x.append(';');
        check.is(0, x::undo);
        check.is(1, x::carryOut);
        check.is(1, () -> x.value(3));
    }

    // ---- promise 24: clearText

    private void lengthThatItHad() {
        CrossingPosts x = new CrossingPosts();
        check.is(0, x::clearText);
        x.append(0);
        check.is(1, x::clearText);
        check.is(0, x::clearText);
        write(x, repeated("d1;", 90));
        check.is(90, x::clearText);
        check.is(0, x::carryOut);
    }

    private void clearTextIsNotUndoable() {
        CrossingPosts x = street(at(10));
        forgetSaved(x);
        write(x, "d1;");
        x.clearText();
        state(x, x::undo);
        x.step();
        write(x, "d1;");
        x.clearText();
        check.is(0, x::undo);
        check.is(0, x::clearText);
    }

    // ---- promise 25: carryOut

    private void upToTheFirstImpossible() {
        // guard 1 and post 1 are not there
        CrossingPosts x = street(at(10), at(99), 0);
        write(x, "d1;c0;s1,1;d9;");
        check.is(2, x::carryOut);
        check.is(1, () -> x.value(3));
        check.is(1, () -> x.value(8));
        write(x, "s0,9;c1;d1;");
        check.is(1, x::carryOut);
        check.is(1, () -> x.value(3));
        check.is(10, () -> x.guard(0, 7));
        // later orders are not tried, though they are possible
        write(x, "s1,1;s0,20;");
        check.is(0, x::carryOut);
        check.is(10, () -> x.guard(0, 7));
    }

    private void allOfThem() {
        right(repeated("d1;", 90), 30);
        CrossingPosts x = wideRoad();
        write(x, "c0;c7;s9,60;s0,1;d2;d60;");
        check.is(6, x::carryOut);
        check.is(62, () -> x.value(3));
        check.is(2, () -> x.value(8));
        check.is(60, () -> x.guard(9, 7));
        check.is(1, () -> x.guard(0, 7));
    }

    private void complaintNotPossible() {
        CrossingPosts x = street(at(10, 20), at(10), 0);
        write(x, "c0;");
        check.is(0, x::carryOut);
        // post 0 is never open; post 1 once complained about is not a second time
        write(x, "d1;c1;c1;");
        check.is(2, x::carryOut);
        check.is(1, () -> x.post(1, 4));
        write(x, "c0;");
        check.is(0, x::carryOut);
        // open in session 1, and the next session is 11 and then 12
        CrossingPosts late = street(at(10));
        late.pass(1);
        late.setNeeds(0, 0);
        goTo(late, 5);
        late.step();
        write(late, "c0;");
        check.is(1, late::carryOut);
        late.undo();
        late.step();
        check.is(0, late::carryOut);
    }

    private void daysNotPossible() {
        CrossingPosts x = emptyOn(2941);
        write(x, "d60;");
        check.is(1, x::carryOut);
        check.is(3001, () -> x.value(3));
        write(x, "d1;");
        check.is(0, x::carryOut);
        check.is(3001, () -> x.value(3));
        CrossingPosts y = emptyOn(2942);
        y.step();
        write(y, "d60;");
        check.is(0, y::carryOut);
        check.is(2942, () -> y.value(3));
        check.is(1, () -> y.value(4));
        write(y, "d59;d1;");
        check.is(1, y::carryOut);
        check.is(3001, () -> y.value(3));
    }

    private void noSuchGuardOrPost() {
        CrossingPosts x = new CrossingPosts();
        write(x, "s0,1;");
        check.is(0, x::carryOut);
        write(x, "c0;");
        check.is(0, x::carryOut);
        CrossingPosts y = wideRoad();
        write(y, "s9,1;c7;");
        check.is(2, y::carryOut);
    }

    private void passesUntilLaterDays() {
        CrossingPosts x = street(at(10));
        x.step();
        write(x, "d1;");
        check.is(1, x::carryOut);
        check.is(1, () -> x.value(3));
        check.is(0, () -> x.value(4));
        check.is(2, () -> x.value(7));
    }

    private void textStays() {
        CrossingPosts x = street(at(10));
        write(x, "d1;d2;");
        check.is(2, x::carryOut);
        check.is(2, x::carryOut);
        check.is(6, () -> x.value(3));
        check.is(6, x::clearText);
        write(x, "d1;d");
        check.is(-14, x::carryOut);
        check.is(-14, x::carryOut);
        check.is(5, () -> x.append('1'));
        check.is(6, () -> x.append(';'));
        check.is(2, x::carryOut);
    }

    private void oneSavedState() {
        CrossingPosts x = street(at(10), at(10), 5);
        forgetSaved(x);
        long before = x.digest();
        write(x, "d1;s0,1;d2;");
        check.is(3, x::carryOut);
        check.is(0, x::undo);
        check.is(11, x::clearText);
        check.is(before, x::digest);
        state(x, x::undo);
    }

    private void savedIfNoneIsCarriedOut() {
        CrossingPosts x = street(at(10));
        forgetSaved(x);
        check.is(0, x::carryOut);
        check.is(0, x::undo);
        write(x, "c0;");
        check.is(0, x::carryOut);
        check.is(0, x::undo);
        state(x, x::undo);
    }

    private void nothingAfterSyntaxError() {
        CrossingPosts x = street(at(10), at(10), 5);
        forgetSaved(x);
        write(x, "d1;s0,5;d1;x");
        long before = x.digest();
        check.is(-21, x::carryOut);
        check.is(before, x::digest);
        state(x, x::undo);
        check.is(0, () -> x.value(3));
        check.is(0, () -> x.guard(0, 7));
        // a saved state from before stays as well
        x.step();
        check.is(-21, x::carryOut);
        check.is(0, x::undo);
        check.is(0, () -> x.value(4));
    }

    private void minusTenMinusPosition() {
        CrossingPosts x = new CrossingPosts();
        write(x, "x");
        check.is(-10, x::carryOut);
        write(x, "d");
        check.is(-11, x::carryOut);
        write(x, repeated("d1;", 87) + "d10");
        check.is(-100, x::carryOut);
    }

    private void run() {
        check.test("the text has at most 90 bytes", this::atMostNinetyBytes);
        check.test("each terminated by a semicolon", this::eachEndsWithSemicolon);
        check.test("a sequence of orders: d, s, c", this::knownOrdersAlone);
        check.test("a number of days of one or two digits", this::oneOrTwoDigits);
        check.test("the number of two digits", this::twoDigitsAreTensAndOnes);
        check.test("1 to 60 days", this::daysInRange);
        check.test("a guard digit 0 to 9", this::guardDigit);
        check.test("a comma behind the guard", this::commaBehindTheGuard);
        check.test("a number of days, likewise", this::sickDaysLikewise);
        check.test("a post digit 0 to 7", this::postDigit);
        check.test("there are no spaces", this::noSpaces);
        check.test("there may be no orders", this::noOrders);
        check.test("the first byte that cannot stand where it stands", this::firstWrongByte);
        check.test("a digit too many, too", this::digitTooMany);
        check.test("the length of the text if it ends too early", this::endsTooEarly);
        check.test("out of range: a byte that is no digit, whichever it is", this::outOfRangeBeforeAnyByte);
        check.test("out of range: or the end of the text", this::outOfRangeAtTheEnd);
        check.test("promise 23: the byte, 0 to 127", this::bytesInRange);
        check.test("promise 23: returns the new length", this::newLength);
        check.test("promise 23: if the text has 90 bytes", this::fullText);
        check.test("promise 23: not undoable", this::appendIsNotUndoable);
        check.test("promise 24: returns the length that it had", this::lengthThatItHad);
        check.test("promise 24: not undoable", this::clearTextIsNotUndoable);
        check.test("promise 25: up to the first one that is not possible", this::upToTheFirstImpossible);
        check.test("promise 25: all are carried out", this::allOfThem);
        check.test("promise 25: a complaint that is not possible", this::complaintNotPossible);
        check.test("promise 25: days that are not possible", this::daysNotPossible);
        check.test("promise 25: no such guard or post", this::noSuchGuardOrPost);
        check.test("promise 25: days pass as by pass()", this::passesUntilLaterDays);
        check.test("promise 25: the text stays as it is", this::textStays);
        check.test("promise 25: one saved state", this::oneSavedState);
        check.test("promise 25: also if no order is carried out", this::savedIfNoneIsCarriedOut);
        check.test("promise 25: nothing changes after a syntax error", this::nothingAfterSyntaxError);
        check.test("promise 25: -10 minus the position", this::minusTenMinusPosition);
        check.end();
    }

    public static void main(String[] args) {
        new TextTest().run();
    }
}
