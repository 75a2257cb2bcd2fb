/** Each number of each call: BAD below what is told and above it, and nowhere between. */
final class BoundsTest {
    private static final int BAD = Hotel.BAD;
    private static final Check CHECK = new Check("BoundsTest");

    private interface OfOne {
        int answer(BootsAtDawn boots, int a);
    }

    private interface OfTwo {
        int answer(BootsAtDawn boots, int a, int b);
    }


    public static void main(String[] args) {
        bounds("write", 32, 126, BootsAtDawn::write);
        slate("g0,0;", 1, 0);
        slate("g3,9;g2,9;u1,0;", 2, 1);
        slate(Hotel.FIRST_TEXT, 5, 6);
        slate(Hotel.guests(6) + "f0;".repeat(9), 6, 9);
        slate(Hotel.guests(6) + "f0;f1;b0,1;a0,1;n0,9;u0,0;u1,0;u2,0;u3,0;", 6, 9);
        CHECK.end();
    }

    private static String text;

    private static void slate(String slate, int guests, int wishes) {
        text = slate;
        ofGuests(guests);
        ofTwoGuests(guests, BootsAtDawn::ahead);
        ofTwoGuests(guests, BootsAtDawn::woken);
        bounds("wish", wishes, 0, 3, BootsAtDawn::wish);
        bounds("strike out", 0, wishes - 1, (boots, w) -> boots.strike(w, true));
        bounds("strike in", 0, wishes - 1, (boots, w) -> boots.strike(w, false));
        bounds("good", 0, 6, BootsAtDawn::good);
        bounds("soonest", 0, 6, BootsAtDawn::soonest);
        bounds("most", 0, 1, BootsAtDawn::most);
        bounds("slates", 0, 1, BootsAtDawn::slates);
        bounds("two", 0, 1, BootsAtDawn::two);
        bounds("count", 0, 9, BootsAtDawn::count);
        for (int what = -1; what <= 2; what++) {
            int third = what;
            boolean told = what == 0 || what == 1;
            bounds("dawn by z", 0, told ? 9999 : -1, (boots, z) -> boots.dawn(z, 1, third));
            bounds("dawn of n", 1, told ? 40 : 0, (boots, n) -> boots.dawn(0, n, third));
        }
    }

    private static void ofGuests(int guests) {
        bounds("leave", 0, guests - 1, BootsAtDawn::leave);
        bounds("hangs", 0, guests - 1, BootsAtDawn::hangs);
        bounds("guest", guests, 0, 3, BootsAtDawn::guest);
        bounds("move", guests, 0, 9, BootsAtDawn::move);
        bounds("place", guests, 0, 1, BootsAtDawn::place);
        bounds("overslept, above", guests, 0, 10, (boots, g, x) -> boots.overslept(g, x, 0));
        bounds("overslept, below", guests, 0, 10, (boots, g, x) -> boots.overslept(g, x, 1));
        bounds("overslept, part", guests, 0, 1, (boots, g, part) -> boots.overslept(g, 3, part));
    }

    /** Numbers about both bounds, and those that are farthest off. */
    private static int[] about(int first, int last) {
        return new int[] {Hotel.LEAST, -5, -2, -1, first - 1, first, first + 1, last - 1, last, last + 1, last + 2, 65536, Hotel.MOST};
    }

    private static boolean within(int number, int first, int last) {
        return first <= number && number <= last;
    }

    private static void bad(String call, int answer, boolean want) {
        CHECK.due("whether " + call + " of " + text + " is BAD", answer == BAD ? 1 : 0, want ? 1 : 0);
    }

    private static BootsAtDawn fresh() {
        return text == null ? new BootsAtDawn() : Hotel.laid(text);
    }

    private static void bounds(String name, int first, int last, OfOne call) {
        for (int a : about(first, last)) {
            bad(name + "(" + a + ")", call.answer(fresh(), a), !within(a, first, last));
        }
    }

    /** Of a call that is told one of so many, then a number. */
    private static void bounds(String name, int many, int first, int last, OfTwo call) {
        for (int a : about(0, many - 1)) {
            for (int b : about(first, last)) {
                boolean told = within(a, 0, many - 1) && within(b, first, last);
                bad(name + "(" + a + ", " + b + ")", call.answer(fresh(), a, b), !told);
            }
        }
    }

    /** Of a call that is told two guests, unlike. */
    private static void ofTwoGuests(int guests, OfTwo call) {
        for (int a : about(0, guests - 1)) {
            for (int b : about(0, guests - 1)) {
                boolean told = a != b && within(a, 0, guests - 1) && within(b, 0, guests - 1);
                bad("of two (" + a + ", " + b + ")", call.answer(fresh(), a, b), !told);
            }
        }
        for (int a = 0; a < guests; a++) {
            bad("alike (" + a + ")", call.answer(fresh(), a, a), true);
        }
    }
}
