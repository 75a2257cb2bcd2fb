import java.util.List;
import java.util.function.Supplier;
import java.util.function.ToIntFunction;

/** What a call changes is seen by every question at once, and what it leaves alone stays; questions change nothing. */
final class ChangesTest {
    private static final int NO = Hotel.NO, NONE = Hotel.NONE;
    private static final Check CHECK = new Check("ChangesTest");
    private static final String SLATE = "g0,1;g1,2;g2,3;g3,4;g0,5;g1,6;b0,1;a3,2;n4,20;u5,60;f0;b2,5;";

    public static void main(String[] args) {
        eachChangeIsSeen("a new object", BootsAtDawn::new);
        eachChangeIsSeen("a busy one", ChangesTest::busy);
        questionsChangeNothing("a new object", BootsAtDawn::new);
        questionsChangeNothing("a busy one", ChangesTest::busy);
        layBeginsAnew();
        layLeavesNothingOfTheSlateBefore();
        layLeavesTheTextAlone();
        writeAndWipeLeaveTheSlateAlone();
        undoGivesBackAllThatWas();
        backGivesBackAllThatWas();
        backLeavesWokenAndTextAlone();
        keepLeavesAllAlone();
        countsOfNothing();
        the512thCallAnswers();
        CHECK.end();
    }

    /** Something to undo, to forget and to go back to. */
    private static BootsAtDawn busy() {
        BootsAtDawn boots = Hotel.laid(SLATE);
        boots.move(1, 0);
        boots.strike(4, true);
        boots.keep();
        boots.woken(3, 0);
        boots.woken(1, 2);
        boots.leave(2);
        boots.move(5, 0);
        boots.strike(0, true);
        return boots;
    }

    private static void change(String scene, Supplier<BootsAtDawn> begin, String name, ToIntFunction<BootsAtDawn> call) {
        BootsAtDawn asked = begin.get();
        List<Integer> before = Hotel.look(asked);
        int answer = call.applyAsInt(asked);
        BootsAtDawn unasked = begin.get();
        CHECK.due(scene + ": " + name + " behind questions", answer, call.applyAsInt(unasked));
        List<Integer> behind = Hotel.look(unasked);
        CHECK.holds(scene + ": " + name + " is seen", Hotel.look(asked).equals(behind));
        CHECK.holds(scene + ": " + name + " is seen as a change", answer < 0 || !before.equals(behind));
    }

    private static void eachChangeIsSeen(String scene, Supplier<BootsAtDawn> begin) {
        for (int i = 0; i < 5; i++) {
            int g = i;
            int w = i;
            change(scene, begin, "leave(" + g + ")", boots -> boots.leave(g));
            change(scene, begin, "move(" + g + ", 8)", boots -> boots.move(g, 8));
            change(scene, begin, "move(" + g + ", 9)", boots -> boots.move(g, 9));
            change(scene, begin, "strike(" + w + ", true)", boots -> boots.strike(w, true));
            change(scene, begin, "strike(" + w + ", false)", boots -> boots.strike(w, false));
            change(scene, begin, "woken(" + g + ", " + (g + 1) % 5 + ")", boots -> boots.woken(g, (g + 1) % 5));
            change(scene, begin, "woken(" + (g + 1) % 5 + ", " + g + ")", boots -> boots.woken((g + 1) % 5, g));
        }
        if (begin.get().count(6) > 0) {
            change(scene, begin, "forget", BootsAtDawn::forget);
            change(scene, begin, "undo", BootsAtDawn::undo);
            change(scene, begin, "back", BootsAtDawn::back);
            change(scene, begin, "lay", BootsAtDawn::lay);
        }
    }

    private static void questionsChangeNothing(String scene, Supplier<BootsAtDawn> begin) {
        BootsAtDawn boots = begin.get();
        List<Integer> first = Hotel.look(boots);
        CHECK.holds(scene + ": asked again", Hotel.look(boots).equals(first));
        boots = begin.get();
        Hotel.look(boots);
        CHECK.holds(scene + ": all behind is as if not asked", Hotel.lookBehind(boots).equals(Hotel.lookBehind(begin.get())));
    }

    /** Promise 5: "all HERE, all WISHES standing, nothing WOKEN, UNDONE, KEPT" */
    private static void layBeginsAnew() {
        BootsAtDawn boots = busy();
        boots.keep();
        CHECK.due("lay", boots.lay(), 6);
        CHECK.due("all here", boots.count(1), 6);
        CHECK.due("all standing", Hotel.standing(boots), 63);
        CHECK.due("none struck out", boots.count(4), 0);
        CHECK.due("nothing woken", boots.count(6), 0);
        CHECK.due("nothing to undo", boots.count(7), 0);
        CHECK.due("nothing kept", boots.count(8), 0);
        CHECK.holds("as laid on a new object", Hotel.lookBehind(boots).equals(Hotel.lookBehind(Hotel.laid(SLATE))));
        boots = busy();
        Hotel.put(boots, "g3,9;");
        CHECK.due("lay of one guest", boots.lay(), 1);
        CHECK.holds("one guest as on a new object", Hotel.lookBehind(boots).equals(Hotel.lookBehind(Hotel.laid("g3,9;"))));
    }

    /** Promise 5: what is LAID is the text alone, however much was told ahead of it. */
    private static void layLeavesNothingOfTheSlateBefore() {
        String[] wishes = {"b1,0;", "a1,0;", "f1;", "n0,50;", "u1,0;", "s9;"};
        String[] shorter = {"g0,3;", "g0,3;g0,1;", "g0,3;g0,1;f0;"};
        for (String wish : wishes) {
            for (String text : shorter) {
                BootsAtDawn boots = Hotel.laid("g3,3;g3,1;g1,9;" + wish.repeat(9));
                Hotel.put(boots, text);
                boots.lay();
                CHECK.holds(text + " behind " + wish, Hotel.look(boots).equals(Hotel.look(Hotel.laid(text))));
            }
        }
    }

    /** Promise 5: "THE TEXT stays" */
    private static void layLeavesTheTextAlone() {
        BootsAtDawn boots = Hotel.laid("g0,0;");
        CHECK.due("letters", boots.count(9), 5);
        CHECK.due("another letter", boots.write('s'), 6);
        CHECK.due("fault of the text that stays", boots.fault(), 5);
        CHECK.due("lay of it", boots.lay(), NO);
        CHECK.due("letters, lay refused", boots.count(9), 6);
        boots.write('7');
        boots.write(';');
        CHECK.due("lay of all of it", boots.lay(), 1);
        CHECK.due("S", boots.count(5), 7);
        CHECK.due("lay once more", boots.lay(), 1);
        CHECK.due("how long it was", boots.wipe(), 8);
    }

    /** Promises 2 and 3: nothing but THE TEXT changes. */
    private static void writeAndWipeLeaveTheSlateAlone() {
        BootsAtDawn boots = busy();
        boots.wipe();
        BootsAtDawn written = busy();
        Hotel.put(written, "g0,0;f0;x");
        CHECK.due("a fault of what is written", written.fault(), 8);
        written.wipe();
        CHECK.due("no fault behind wipe", written.fault(), NONE);
        CHECK.holds("the slate is as it was", Hotel.lookBehind(boots).equals(Hotel.lookBehind(written)));
    }

    /** Promise 11: one behind the other all that was. */
    private static void undoGivesBackAllThatWas() {
        BootsAtDawn boots = Hotel.laid(SLATE);
        Hotel.leave(boots, 0, 5, 0);
        boots.move(2, 9);
        boots.move(2, 0);
        boots.strike(0, true);
        boots.strike(5, true);
        boots.strike(0, false);
        for (int more = 7; more >= 0; more--) {
            CHECK.due("undo", boots.undo(), more);
        }
        CHECK.holds("as laid", Hotel.look(boots).equals(Hotel.look(Hotel.laid(SLATE))));
    }

    /** Promise 27: "As KEPT last (it is KEPT no more then)", "nothing is UNDONE then" */
    private static void backGivesBackAllThatWas() {
        BootsAtDawn boots = Hotel.laid(SLATE);
        boots.keep();
        boots.leave(3);
        boots.move(0, 9);
        boots.strike(1, true);
        boots.keep();
        boots.leave(3);
        boots.strike(1, false);
        CHECK.due("back", boots.back(), 1);
        CHECK.due("nothing to undo", boots.count(7), 0);
        CHECK.due("undo", boots.undo(), NO);
        CHECK.due("left", boots.guest(3, 2), 0);
        CHECK.due("moved", boots.guest(0, 1), 9);
        CHECK.due("struck out", boots.count(4), 1);
        boots.leave(3);
        CHECK.due("a change to undo", boots.count(7), 1);
        CHECK.due("back again", boots.back(), 0);
        CHECK.due("nothing to undo again", boots.undo(), NO);
        CHECK.holds("as laid", Hotel.look(boots).equals(Hotel.look(Hotel.laid(SLATE))));
        boots.leave(0);
        CHECK.due("back to none", boots.back(), NO);
        CHECK.due("what can be undone stays then", boots.count(7), 1);
    }

    /** Promise 27: nothing else goes back. */
    private static void backLeavesWokenAndTextAlone() {
        BootsAtDawn boots = Hotel.laid("g0,0;g0,0;g0,0;");
        boots.woken(0, 1);
        boots.keep();
        boots.woken(1, 2);
        boots.write('s');
        CHECK.due("back", boots.back(), 0);
        CHECK.due("woken", boots.count(6), 2);
        CHECK.due("washed", boots.washed(), 1);
        CHECK.due("letters", boots.count(9), 16);
        boots.keep();
        boots.forget();
        boots.back();
        CHECK.due("forgotten still", boots.count(6), 0);
    }

    /** Promise 26: nothing but how many are KEPT changes. */
    private static void keepLeavesAllAlone() {
        BootsAtDawn boots = Hotel.laid(SLATE);
        boots.leave(0);
        CHECK.due("keep", boots.keep(), 1);
        CHECK.due("keep alike", boots.keep(), 2);
        CHECK.due("can be undone still", boots.undo(), 0);
        CHECK.due("kept still", boots.count(8), 2);
        BootsAtDawn other = Hotel.laid(SLATE);
        other.keep();
        other.keep();
        CHECK.holds("as one kept alike", Hotel.look(boots).equals(Hotel.look(other)));
    }

    /** Promise 28: with nobody, nothing told, undone, kept or written. */
    private static void countsOfNothing() {
        BootsAtDawn boots = Hotel.laid("g0,0;");
        boots.wipe();
        boots.leave(0);
        boots.keep();
        boots.back();
        int[] counts = {1, 0, 0, 0, 0, 0, 0, 0, 0, 0};
        for (int what = 0; what < counts.length; what++) {
            CHECK.due("count(" + what + ") of nothing", boots.count(what), counts[what]);
        }
    }

    /** "An object is used for at most 512 calls after it has been made" */
    private static void the512thCallAnswers() {
        BootsAtDawn boots = new BootsAtDawn();
        for (int call = 1; call <= 508; call++) {
            CHECK.due("leave, call " + call, boots.leave(0), call % 2 == 1 ? 0 : 1);
        }
        CHECK.due("count, call 509", boots.count(7), 8);
        CHECK.due("undo, call 510", boots.undo(), 7);
        CHECK.due("good, call 511", boots.good(0), 4);
        CHECK.due("soonest, call 512", boots.soonest(0), 24);
    }
}
