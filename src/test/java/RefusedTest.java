import java.util.ArrayList;
import java.util.List;
import java.util.function.Supplier;
import java.util.function.ToIntFunction;

/** A call that is refused answers as told and changes nothing. */
final class RefusedTest {
    private static final int BAD = Hotel.BAD, NO = Hotel.NO, FULL = Hotel.FULL, NONE = Hotel.NONE;
    private static final Check CHECK = new Check("RefusedTest");
    private static final int[] FAR = {Hotel.LEAST, -1, 65536, Hotel.MOST};

    private record Call(String name, int due, ToIntFunction<BootsAtDawn> call) { }

    private final String scene;
    private final Supplier<BootsAtDawn> begin;
    private final List<Call> calls = new ArrayList<>();

    private RefusedTest(String scene, Supplier<BootsAtDawn> begin) {
        this.scene = scene;
        this.begin = begin;
    }

    public static void main(String[] args) {
        aNewObject();
        nothingThere();
        everythingFull();
        noneGood();
        CHECK.end();
    }

    private void refused(String name, int due, ToIntFunction<BootsAtDawn> call) {
        calls.add(new Call(name, due, call));
    }

    /** Does each call on an object of its own, and looks whether that is as one on which nothing was called. */
    private void run() {
        List<Integer> untouched = Hotel.lookBehind(begin.get());
        for (Call call : calls) {
            BootsAtDawn boots = begin.get();
            CHECK.due(scene + ": " + call.name, call.call.applyAsInt(boots), call.due);
            CHECK.holds(scene + ": nothing changes by " + call.name, Hotel.lookBehind(boots).equals(untouched));
        }
    }

    /** What is BAD whatever the slate, and of this many guests and wishes. */
    private void allThatIsBad(int guests, int wishes) {
        badLetters();
        for (int g : new int[] {Hotel.LEAST, -1, guests, Hotel.MOST}) {
            badGuest(g);
        }
        for (int w : new int[] {Hotel.LEAST, -1, wishes, Hotel.MOST}) {
            refused("wish(" + w + ", 0)", BAD, boots -> boots.wish(w, 0));
            refused("strike(" + w + ", true)", BAD, boots -> boots.strike(w, true));
            refused("strike(" + w + ", false)", BAD, boots -> boots.strike(w, false));
        }
        for (int g = 0; g < guests; g++) {
            int alike = g;
            refused("ahead of himself", BAD, boots -> boots.ahead(alike, alike));
            refused("woken ahead of himself", BAD, boots -> boots.woken(alike, alike));
        }
        badNumbers();
        badDawns();
    }

    private void badLetters() {
        for (int letter : new int[] {Hotel.LEAST, -1, 0, 10, 31, 127, 128, 255, 65536 + 'g', Hotel.MOST}) {
            refused("write(" + letter + ")", BAD, boots -> boots.write(letter));
        }
    }

    private void badGuest(int g) {
        refused("guest(" + g + ", 0)", BAD, boots -> boots.guest(g, 0));
        refused("leave(" + g + ")", BAD, boots -> boots.leave(g));
        refused("move(" + g + ", 7)", BAD, boots -> boots.move(g, 7));
        refused("place(" + g + ", 0)", BAD, boots -> boots.place(g, 0));
        refused("ahead(" + g + ", 0)", BAD, boots -> boots.ahead(g, 0));
        refused("ahead(0, " + g + ")", BAD, boots -> boots.ahead(0, g));
        refused("hangs(" + g + ")", BAD, boots -> boots.hangs(g));
        refused("woken(" + g + ", 0)", BAD, boots -> boots.woken(g, 0));
        refused("woken(0, " + g + ")", BAD, boots -> boots.woken(0, g));
        refused("overslept(" + g + ", 1, 0)", BAD, boots -> boots.overslept(g, 1, 0));
    }

    private void badNumbers() {
        for (int far : FAR) {
            badFrom(far);
        }
        refused("guest(0, 4)", BAD, boots -> boots.guest(0, 4));
        refused("wish(0, 4)", BAD, boots -> boots.wish(0, 4));
        refused("move(0, 10)", BAD, boots -> boots.move(0, 10));
        refused("good(7)", BAD, boots -> boots.good(7));
        refused("soonest(7)", BAD, boots -> boots.soonest(7));
        refused("most(2)", BAD, boots -> boots.most(2));
        refused("place(0, 2)", BAD, boots -> boots.place(0, 2));
        refused("slates(2)", BAD, boots -> boots.slates(2));
        refused("two(2)", BAD, boots -> boots.two(2));
        refused("overslept(0, 11, 0)", BAD, boots -> boots.overslept(0, 11, 0));
        refused("overslept(0, 0, 2)", BAD, boots -> boots.overslept(0, 0, 2));
        refused("count(10)", BAD, boots -> boots.count(10));
    }

    private void badFrom(int far) {
        refused("guest(0, " + far + ")", BAD, boots -> boots.guest(0, far));
        refused("wish(0, " + far + ")", BAD, boots -> boots.wish(0, far));
        refused("move(0, " + far + ")", BAD, boots -> boots.move(0, far));
        refused("good(" + far + ")", BAD, boots -> boots.good(far));
        refused("soonest(" + far + ")", BAD, boots -> boots.soonest(far));
        refused("most(" + far + ")", BAD, boots -> boots.most(far));
        refused("place(0, " + far + ")", BAD, boots -> boots.place(0, far));
        refused("slates(" + far + ")", BAD, boots -> boots.slates(far));
        refused("two(" + far + ")", BAD, boots -> boots.two(far));
        refused("overslept(0, " + far + ", 0)", BAD, boots -> boots.overslept(0, far, 0));
        refused("overslept(0, 1, " + far + ")", BAD, boots -> boots.overslept(0, 1, far));
        refused("count(" + far + ")", BAD, boots -> boots.count(far));
    }

    private void badDawns() {
        for (int far : FAR) {
            refused("dawn(" + far + ", 1, 0)", BAD, boots -> boots.dawn(far, 1, 0));
            refused("dawn(0, " + far + ", 0)", BAD, boots -> boots.dawn(0, far, 0));
            refused("dawn(0, 1, " + far + ")", BAD, boots -> boots.dawn(0, 1, far));
        }
        refused("dawn(10000, 1, 0)", BAD, boots -> boots.dawn(10000, 1, 0));
        refused("dawn(0, 0, 0)", BAD, boots -> boots.dawn(0, 0, 0));
        refused("dawn(0, 41, 0)", BAD, boots -> boots.dawn(0, 41, 0));
        refused("dawn(0, 1, 2)", BAD, boots -> boots.dawn(0, 1, 2));
    }

    private static void aNewObject() {
        RefusedTest test = new RefusedTest("a new object", BootsAtDawn::new);
        test.allThatIsBad(5, 6);
        test.refused("fault", NONE, BootsAtDawn::fault);
        test.refused("lay", NO, BootsAtDawn::lay);
        test.refused("wipe", 0, BootsAtDawn::wipe);
        test.refused("undo", NO, BootsAtDawn::undo);
        test.refused("back", NO, BootsAtDawn::back);
        test.refused("forget", 0, BootsAtDawn::forget);
        test.refused("core", NONE, BootsAtDawn::core);
        test.refused("good(6)", NONE, boots -> boots.good(6));
        test.refused("soonest(6)", NONE, boots -> boots.soonest(6));
        int[] floors = {1, 3, 2, 5, 3};
        for (int g = 0; g < 5; g++) {
            int guest = g;
            test.refused("move to where he is", NO, boots -> boots.move(guest, floors[guest]));
        }
        for (int w = 0; w < 6; w++) {
            int wish = w;
            test.refused("strike(" + w + ", false)", NO, boots -> boots.strike(wish, false));
        }
        test.run();
    }

    /** Nobody here, no wish that stands, no text, nothing told, undone or kept. */
    private static BootsAtDawn empty() {
        BootsAtDawn boots = Hotel.laid("g0,3;g3,9;f0;u1,7;s8;");
        boots.wipe();
        Hotel.leave(boots, 0, 1);
        boots.strike(0, true);
        boots.strike(1, true);
        boots.keep();
        boots.back();
        return boots;
    }

    private static void nothingThere() {
        RefusedTest test = new RefusedTest("nothing there", RefusedTest::empty);
        test.allThatIsBad(2, 2);
        test.refused("fault", NONE, BootsAtDawn::fault);
        test.refused("lay", NO, BootsAtDawn::lay);
        test.refused("wipe", 0, BootsAtDawn::wipe);
        test.refused("undo", NO, BootsAtDawn::undo);
        test.refused("back", NO, BootsAtDawn::back);
        test.refused("forget", 0, BootsAtDawn::forget);
        test.refused("core", NONE, BootsAtDawn::core);
        test.refused("B of first", NONE, boots -> boots.wish(0, 2));
        test.refused("good(1)", NONE, boots -> boots.good(1));
        test.refused("soonest(1)", NONE, boots -> boots.soonest(1));
        test.refused("place(0, 0)", NONE, boots -> boots.place(0, 0));
        test.refused("place(1, 1)", NONE, boots -> boots.place(1, 1));
        test.refused("ahead(0, 1)", NONE, boots -> boots.ahead(0, 1));
        test.refused("slates(1)", NONE, boots -> boots.slates(1));
        test.refused("hangs(0)", NO, boots -> boots.hangs(0));
        test.refused("overslept(0, 1, 0)", NO, boots -> boots.overslept(0, 1, 0));
        test.refused("overslept(1, 10, 1)", NO, boots -> boots.overslept(1, 10, 1));
        test.refused("move(1, 9)", NO, boots -> boots.move(1, 9));
        test.refused("strike(0, true)", NO, boots -> boots.strike(0, true));
        test.refused("strike(1, true)", NO, boots -> boots.strike(1, true));
        test.run();
    }

    /** 200 letters, 6 guests, 9 wishes, 6 told, 8 that can be undone, 2 kept. */
    private static BootsAtDawn full() {
        String slate = "g0,1;g1,2;g2,3;g3,4;g0,5;g1,6;b0,1;b1,2;a3,2;n4,20;u5,60;b2,4;b0,5;f0;u0,99;";
        BootsAtDawn boots = Hotel.laid(slate + "s1;".repeat(39) + "s10;s2;");
        boots.leave(5);
        boots.keep();
        boots.move(4, 9);
        boots.strike(3, true);
        boots.keep();
        Hotel.leave(boots, 5, 0, 0);
        boots.strike(4, true);
        boots.move(0, 0);
        for (int told = 0; told < 6; told++) {
            boots.woken(told % 3, 3 + told % 2);
        }
        return boots;
    }

    private static void everythingFull() {
        int[] counts = {6, 6, 9, 7, 2, 2, 6, 8, 2, 200};
        BootsAtDawn full = full();
        for (int what = 0; what < counts.length; what++) {
            CHECK.due("everything full: count(" + what + ")", full.count(what), counts[what]);
        }
        RefusedTest test = new RefusedTest("everything full", RefusedTest::full);
        test.allThatIsBad(6, 9);
        test.refused("write(32)", FULL, boots -> boots.write(32));
        test.refused("write(126)", FULL, boots -> boots.write(126));
        test.refused("write(59)", FULL, boots -> boots.write(';'));
        test.refused("fault", NONE, BootsAtDawn::fault);
        test.refused("woken(0, 1)", FULL, boots -> boots.woken(0, 1));
        test.refused("woken(5, 4)", FULL, boots -> boots.woken(5, 4));
        test.refused("keep", FULL, BootsAtDawn::keep);
        test.refused("move(0, 0)", NO, boots -> boots.move(0, 0));
        test.refused("move(4, 9)", NO, boots -> boots.move(4, 9));
        test.refused("strike(3, true)", NO, boots -> boots.strike(3, true));
        test.refused("strike(8, false)", NO, boots -> boots.strike(8, false));
        test.refused("B of first", NONE, boots -> boots.wish(7, 2));
        test.run();
    }

    /** No good round, one who has left, a text with a fault. */
    private static BootsAtDawn contrary() {
        BootsAtDawn boots = Hotel.laid("g0,0;g0,1;g0,2;b0,1;b1,0;u2,50;");
        boots.leave(2);
        boots.keep();
        boots.move(0, 4);
        boots.woken(0, 1);
        Hotel.put(boots, "g0,0;f1;");
        return boots;
    }

    private static void noneGood() {
        RefusedTest test = new RefusedTest("none good", RefusedTest::contrary);
        test.allThatIsBad(3, 3);
        test.refused("lay", NO, BootsAtDawn::lay);
        test.refused("good(1)", NONE, boots -> boots.good(1));
        test.refused("soonest(0)", NONE, boots -> boots.soonest(0));
        test.refused("soonest(6)", NONE, boots -> boots.soonest(6));
        test.refused("place(0, 0)", NONE, boots -> boots.place(0, 0));
        test.refused("place(2, 1)", NONE, boots -> boots.place(2, 1));
        test.refused("ahead(0, 1)", NONE, boots -> boots.ahead(0, 1));
        test.refused("ahead(2, 1)", NONE, boots -> boots.ahead(2, 1));
        test.refused("slates(1)", NONE, boots -> boots.slates(1));
        test.refused("hangs(2)", NO, boots -> boots.hangs(2));
        test.refused("overslept(2, 0, 0)", NO, boots -> boots.overslept(2, 0, 0));
        test.refused("move(2, 2)", NO, boots -> boots.move(2, 2));
        test.refused("strike(2, false)", NO, boots -> boots.strike(2, false));
        test.run();
    }
}
