import java.util.concurrent.Callable;

/** Long runs of calls, ordinary, on the edge and wrong, against the second reading of the document. */
public final class ReferenceTest {
    private static long seed;

    private static int below(int bound) {
        seed = seed * 6364136223846793005L + 1442695040888963407L;
        return (int) ((seed >>> 33) % bound);
    }

    private static int pick(int... values) {
        return values[below(values.length)];
    }

    /** Mostly 0 to the highest, at times an edge or far outside. */
    private static int argument(int highest) {
        switch (below(24)) {
            case 0: return pick(-1, highest + 1, -2, Integer.MIN_VALUE, Integer.MAX_VALUE);
            case 1: return 0;
            case 2: return highest;
            default: return below(highest + 1);
        }
    }

    private static String answer(Callable<Object> call) {
        try {
            return call.call().toString();
        } catch (Reference.Refused e) {
            return "throws." + e.name;
        } catch (Exception e) {
            return "throws." + e.getClass().getSimpleName();
        }
    }

    private static int wrong = 0;

    private static void same(int run, String call, Callable<Object> program, Callable<Object> reference) {
        String got = answer(program);
        String due = answer(reference);
        if (!got.equals(due)) {
            wrong++;
            System.out.println("run " + run + ": " + call + " answered " + got + ", due is " + due);
        }
    }

    private static int asked(Reference r) {
        int today = r.value(3);
        return below(3) == 0 ? argument(3000) : Math.min(3000, today + below(9));
    }

    private static void changeCall(int run, CrossingPosts x, Reference r) {
        int p = argument(7);
        int g = argument(9);
        switch (below(13)) {
            case 0: {
                int a = below(3) == 0 ? argument(3000) : r.value(3) + below(30);
                int b = below(8) == 0 ? argument(3000) : Math.min(3000, a + below(6));
                same(run, "addHoliday(" + a + ", " + b + ")", () -> x.addHoliday(a, b), () -> r.addHoliday(a, b));
                break;
            }
            case 1: {
                int a = argument(99);
                int b = below(2) == 0 ? 1023 : argument(1023);
                same(run, "addPost(" + a + ", " + b + ")", () -> x.addPost(a, b), () -> r.addPost(a, b));
                break;
            }
            case 2: {
                int b = argument(1023);
                same(run, "setNeeds(" + p + ", " + b + ")", () -> x.setNeeds(p, b), () -> r.setNeeds(p, b));
                break;
            }
            case 3: {
                int a = argument(99);
                int b = below(2) == 0 ? below(30) : argument(99);
                int c = below(2) == 0 ? -1 : argument(7);
                same(run, "addGuard(" + a + ", " + b + ", " + c + ")", () -> x.addGuard(a, b, c),
                        () -> r.addGuard(a, b, c));
                break;
            }
            case 4: {
                int b = below(3) == 0 ? -1 : p;
                same(run, "setPost(" + g + ", " + b + ")", () -> x.setPost(g, b), () -> r.setPost(g, b));
                break;
            }
            case 5: {
                int b = below(2) == 0 ? below(5) : argument(60);
                same(run, "sick(" + g + ", " + b + ")", () -> x.sick(g, b), () -> r.sick(g, b));
                break;
            }
            case 6:
            case 7:
                same(run, "complain(" + p + ")", () -> x.complain(p), () -> r.complain(p));
                break;
            case 8:
            case 9:
            case 10:
                same(run, "step()", x::step, r::step);
                break;
            case 11: {
                int a = below(4) == 0 ? argument(60) : 1 + below(6);
                same(run, "pass(" + a + ")", () -> x.pass(a), () -> r.pass(a));
                break;
            }
            default:
                if (below(2) == 0) same(run, "undo()", x::undo, r::undo);
        }
    }

    private static void questionCall(int run, CrossingPosts x, Reference r) {
        int p = argument(7);
        int g = argument(9);
        int d = asked(r);
        int s = below(20) == 0 ? argument(1) : below(2);
        switch (below(13)) {
            case 0: {
                int w = argument(8);
                same(run, "post(" + p + ", " + w + ")", () -> x.post(p, w), () -> r.post(p, w));
                break;
            }
            case 1: {
                int w = argument(10);
                same(run, "guard(" + g + ", " + w + ")", () -> x.guard(g, w), () -> r.guard(g, w));
                break;
            }
            case 2: {
                int w = argument(10);
                same(run, "value(" + w + ")", () -> x.value(w), () -> r.value(w));
                break;
            }
            case 3: {
                int h = argument(5);
                boolean last = below(2) == 0;
                same(run, "holiday(" + h + ", " + last + ")", () -> x.holiday(h, last), () -> r.holiday(h, last));
                break;
            }
            case 4:
                same(run, "needed(" + d + ", " + s + ")", () -> x.needed(d, s), () -> r.needed(d, s));
                break;
            case 5:
                same(run, "open(" + d + ", " + s + ")", () -> x.open(d, s), () -> r.open(d, s));
                break;
            case 6:
                same(run, "standing(" + p + ", " + d + ", " + s + ")", () -> x.standing(p, d, s),
                        () -> r.standing(p, d, s));
                break;
            case 7: {
                int w = argument(1);
                same(run, "best(" + d + ", " + s + ", " + w + ")", () -> x.best(d, s, w), () -> r.best(d, s, w));
                break;
            }
            case 8:
                same(run, "missed(" + g + ", " + d + ")", () -> x.missed(g, d), () -> r.missed(g, d));
                break;
            case 9:
                same(run, "daysToOpen()", x::daysToOpen, r::daysToOpen);
                break;
            case 10:
                if (below(3) == 0) same(run, "bestHome(" + d + ")", () -> x.bestHome(d), () -> r.bestHome(d));
                break;
            case 11:
                same(run, "filled()", x::filled, r::filled);
                break;
            default:
                same(run, "digest()", x::digest, r::digest);
        }
    }

    private static String number() {
        return below(6) == 0 ? "" + below(130) : below(3) == 0 ? "0" + below(10) : "" + (1 + below(7));
    }

    private static String order() {
        switch (below(3)) {
            case 0: return "d" + number() + ";";
            case 1: return "s" + below(10) + "," + number() + ";";
            default: return "c" + below(below(9) == 0 ? 10 : 8) + ";";
        }
    }

    private static void textCalls(int run, CrossingPosts x, Reference r) {
        if (below(8) != 0) same(run, "clearText()", x::clearText, r::clearText);
        StringBuilder text = new StringBuilder();
        int orders = below(12) == 0 ? 30 : below(6);
        for (int i = 0; i < orders; i++) text.append(order());
        if (text.length() > 0 && below(3) == 0) {
            text.setCharAt(below(text.length()), (char) pick('d', 's', 'c', ';', ',', '0', '9', ' ', 'x', 127));
        }
        if (text.length() > 0 && below(4) == 0) text.setLength(below(text.length()));
        for (int i = 0; i < text.length(); i++) {
            int value = below(60) == 0 ? argument(127) : text.charAt(i);
            same(run, "append(" + value + ")", () -> x.append(value), () -> r.append(value));
        }
        same(run, "carryOut() of " + text, x::carryOut, r::carryOut);
    }

    private static void oneRun(int run) {
        seed = 977L * run + 5;
        CrossingPosts x = new CrossingPosts();
        Reference r = new Reference();
        if (run % 8 == 0) {
            for (int i = 0; i < 50; i++) {
                int days = i < 49 ? 60 : 40 + below(20);
                same(run, "pass(" + days + ")", () -> x.pass(days), () -> r.pass(days));
            }
        }
        int furnished = below(3);
        for (int i = 0; i < 4 * furnished; i++) {
            int a = below(100);
            same(run, "addPost", () -> x.addPost(a, 1023), () -> r.addPost(a, 1023));
            int b = below(100);
            int c = below(4) == 0 ? 99 : below(40);
            int own = below(2) == 0 ? -1 : below(4 * furnished);
            same(run, "addGuard", () -> x.addGuard(b, c, own), () -> r.addGuard(b, c, own));
        }
        for (int call = 0; call < 160 && wrong < 20; call++) {
            int kind = below(30);
            if (kind == 0) textCalls(run, x, r);
            else if (kind < 16) changeCall(run, x, r);
            else questionCall(run, x, r);
            if (kind % 8 == 1) same(run, "digest()", x::digest, r::digest);
        }
    }

    public static void main(String[] args) {
        int runs = args.length > 0 ? Integer.parseInt(args[0]) : 400;
        for (int run = 1; run <= runs && wrong < 20; run++) oneRun(run);
        if (wrong > 0) {
            System.out.println(wrong + " answers are not as due");
            System.exit(1);
        }
    }
}
