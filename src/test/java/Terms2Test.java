/** "Terms", section 2: each sentence about guests, wishes, rounds and changes that names a bound, on both sides of it. */
final class Terms2Test {
    private static final int NO = Hotel.NO, NONE = Hotel.NONE;
    private static final Check CHECK = new Check("Terms2Test");

    public static void main(String[] args) {
        guestsAreHereAtFirst();
        guestsHaveLeft();
        wishesStandUnlessAOrBHasLeft();
        wishesOfOneStandAsLongAsHeIsHere();
        wishesStruckOutDoNotStand();
        roundIsOfAllWhoAreHere();
        roundOfNobodyEndsWhenItBegins();
        bootsBeginsOnFloor0();
        minuteForEachFloorApart();
        waitsAsLongAsItIsSooner();
        waitsForAllWishesThatStand();
        waitsForNoWishThatDoesNotStand();
        wakingByKind();
        wakingOfADeafOneByFloor();
        keptBefore();
        keptJustAfter();
        keptFirst();
        keptNotSooner();
        keptNotLater();
        keptNotLaterByTimeAheadOfWaking();
        guestCanLeaveComeAgain();
        guestCanMove();
        wishCanBeStruckOutWrittenAgain();
        undoneIsTheLatest();
        last8CanBeUndone();
        nothingElseIsUndone();
        CHECK.end();
    }

    private static void order(String what, BootsAtDawn boots, int... want) {
        for (int k = 1; k <= 6; k++) {
            CHECK.due(what + ": guest " + k, boots.good(k), k <= want.length ? want[k - 1] : NONE);
        }
    }

    private static void goodOf(String text, int want) {
        CHECK.due("good of " + text, Hotel.laid(text).good(0), want);
    }

    private static void endOf(String text, int want) {
        CHECK.due("end of " + text, Hotel.laid(text).soonest(0), want);
    }

    /** "GUESTS are HERE (at first) or have LEFT" */
    private static void guestsAreHereAtFirst() {
        for (int many = 1; many <= 6; many++) {
            BootsAtDawn boots = Hotel.laid(Hotel.guests(many));
            CHECK.due("here of " + many, boots.count(1), many);
            for (int g = 0; g < many; g++) {
                CHECK.due("here at first", boots.guest(g, 2), 1);
            }
        }
    }

    /** "GUESTS are HERE (at first) or have LEFT" */
    private static void guestsHaveLeft() {
        BootsAtDawn boots = Hotel.laid(Hotel.guests(6));
        for (int g = 0; g < 6; g++) {
            CHECK.due("leaves", boots.leave(g), 0);
            CHECK.due("has left", boots.guest(g, 2), 0);
            CHECK.due("still here", boots.count(1), 5 - g);
            CHECK.due("guests, those who have left, too", boots.count(0), 6);
        }
        for (int g = 5; g >= 0; g--) {
            CHECK.due("comes again", boots.leave(g), 1);
            CHECK.due("is here again", boots.guest(g, 2), 1);
            CHECK.due("here again", boots.count(1), 6 - g);
        }
    }

    /** "or stand, unless A or B of theirs has LEFT" */
    private static void wishesStandUnlessAOrBHasLeft() {
        // the hours of wishes 3 and 4 look like guests, and are none
        BootsAtDawn boots = Hotel.laid(Hotel.guests(3) + "b0,1;a1,0;f0;n0,1;u0,2;f1;b2,0;");
        int[] standWithout = {32, 4 + 8 + 16 + 64, 1 + 2 + 4 + 8 + 16 + 32};
        CHECK.due("all stand", Hotel.standing(boots), 127);
        for (int g = 0; g < 3; g++) {
            boots.leave(g);
            CHECK.due("stand without " + g, Hotel.standing(boots), standWithout[g]);
            CHECK.due("how many stand without " + g, boots.count(3), Integer.bitCount(standWithout[g]));
            CHECK.due("none is struck out by that", boots.count(4), 0);
            boots.leave(g);
            CHECK.due("all stand again", Hotel.standing(boots), 127);
        }
        Hotel.leave(boots, 0, 1);
        CHECK.due("stand without A and B", Hotel.standing(boots), 0);
        boots.leave(0);
        CHECK.due("stand without one of the two", Hotel.standing(boots), 4 + 8 + 16 + 64);
    }

    /** "or stand, unless A or B of theirs has LEFT" */
    private static void wishesOfOneStandAsLongAsHeIsHere() {
        BootsAtDawn boots = Hotel.laid(Hotel.guests(6) + "f5;n5,0;u5,0;b0,5;a5,0;");
        Hotel.leave(boots, 1, 2, 3, 4);
        CHECK.due("others have left", Hotel.standing(boots), 31);
        boots.leave(5);
        CHECK.due("he has left", Hotel.standing(boots), 0);
        Hotel.leave(boots, 5, 0);
        CHECK.due("the other of two has left", Hotel.standing(boots), 7);
    }

    /** "WISHES are STRUCK OUT, or stand" */
    private static void wishesStruckOutDoNotStand() {
        BootsAtDawn boots = Hotel.laid(Hotel.guests(2) + "f0;".repeat(9));
        for (int w = 0; w < 9; w++) {
            boots.strike(w, true);
            CHECK.due("stands, struck out", boots.wish(w, 3), 0);
            CHECK.due("stand", boots.count(3), 8 - w);
            CHECK.due("struck out", boots.count(4), w + 1);
        }
        boots.leave(0);
        boots.strike(8, false);
        CHECK.due("written again while A has left", boots.wish(8, 3), 0);
        boots.leave(0);
        CHECK.due("A comes again", Hotel.standing(boots), 256);
        CHECK.due("wishes, those struck out, too", boots.count(2), 9);
    }

    /** "A ROUND is an order of all who are HERE" */
    private static void roundIsOfAllWhoAreHere() {
        BootsAtDawn boots = Hotel.laid(Hotel.guests(6));
        int[] rounds = {720, 120, 24, 6, 2, 1, 1};
        for (int left = 0; left <= 6; left++) {
            CHECK.due("rounds without " + left, boots.washed(), rounds[left]);
            CHECK.due("good rounds without " + left, boots.good(0), rounds[left]);
            if (left < 6) {
                CHECK.due("the last in a round", boots.good(6 - left), 5);
                CHECK.due("nobody behind the last", boots.good(Math.min(7 - left, 6)), left == 0 ? 5 : NONE);
            }
            boots.leave(left);
        }
    }

    /** "of nobody: one that ends when it begins" */
    private static void roundOfNobodyEndsWhenItBegins() {
        int[] starts = {0, 1, 99};
        for (int start : starts) {
            BootsAtDawn boots = Hotel.laid("g1,9;f0;n0,50;u0,0;s" + start + ";");
            boots.leave(0);
            CHECK.due("rounds of nobody", boots.washed(), 1);
            CHECK.due("good rounds of nobody", boots.good(0), 1);
            CHECK.due("a round of nobody ends", boots.soonest(0), start);
            order("nobody", boots);
            CHECK.due("soonest(1) of nobody", boots.soonest(1), NONE);
            CHECK.due("most of nobody", boots.most(0), 0);
            CHECK.due("core of nobody", boots.core(), NONE);
        }
    }

    /** "The boots begins at S on FLOOR 0" */
    private static void bootsBeginsOnFloor0() {
        for (int floor = 0; floor <= 9; floor++) {
            endOf("g2," + floor + ";", floor);
            endOf("g2," + floor + ";s99;", 99 + floor);
        }
    }

    /** "to the next GUEST it takes him a minute for each FLOOR by which they are apart" */
    private static void minuteForEachFloorApart() {
        endOf("g2,0;g2,9;b0,1;", 9);
        endOf("g2,9;g2,0;b0,1;", 18);
        endOf("g2,4;g2,4;b0,1;", 4);
        endOf("g2,4;g2,5;b0,1;", 5);
        endOf("g2,5;g2,4;b0,1;", 6);
        endOf("g2,9;g2,0;g2,9;g2,0;g2,9;g2,0;b0,1;b1,2;b2,3;b3,4;b4,5;s99;", 99 + 54);
    }

    /** "he waits there, as long as it is sooner than any WISH (not sooner) that stands has it" */
    private static void waitsAsLongAsItIsSooner() {
        int[][] hoursAndEnds = {{0, 6}, {4, 6}, {5, 6}, {6, 7}, {7, 8}, {99, 100}};
        for (int[] row : hoursAndEnds) {
            endOf("g0,5;n0," + row[0] + ";", row[1]);
        }
        // guest 0 is woken at 10, guest 1 can be reached at 14
        int[][] ofTheNext = {{13, 15}, {14, 15}, {15, 16}};
        for (int[] row : ofTheNext) {
            endOf("g0,0;g0,3;b0,1;n0,10;n1," + row[0] + ";", row[1]);
        }
        endOf("g0,0;n0,98;s98;", 99);
        endOf("g0,0;n0,99;s98;", 100);
        endOf("g0,0;n0,98;s99;", 100);
    }

    /** "he waits there, as long as it is sooner than any WISH (not sooner) that stands has it" */
    private static void waitsForAllWishesThatStand() {
        endOf("g2,0;n0,5;n0,9;", 9);
        endOf("g2,0;n0,9;n0,5;", 9);
        endOf("g2,0;" + "n0,1;".repeat(8) + "n0,2;", 2);
        endOf("g2,0;n0,99;" + "n0,1;".repeat(8), 99);
        endOf("g2,0;g2,0;n1,7;b0,1;", 7);
        endOf("g2,0;g2,0;n1,7;n0,8;", 8);
    }

    /** "any WISH (not sooner) that stands" */
    private static void waitsForNoWishThatDoesNotStand() {
        BootsAtDawn boots = Hotel.laid("g2,0;g2,0;n0,5;n0,9;n1,20;u1,30;");
        CHECK.due("all stand", boots.soonest(0), 20);
        boots.leave(1);
        CHECK.due("one has left", boots.soonest(0), 9);
        boots.strike(1, true);
        CHECK.due("one struck out", boots.soonest(0), 5);
        boots.strike(0, true);
        CHECK.due("both struck out", boots.soonest(0), 0);
        boots.strike(1, false);
        CHECK.due("one written again", boots.soonest(0), 9);
        boots.leave(1);
        CHECK.due("one comes again", boots.soonest(0), 20);
    }

    /** "WAKING takes 1 minute, of a HEAVY one 3, of a LIGHT one 0" */
    private static void wakingByKind() {
        int[] minutes = {1, 3, 0};
        for (int kind = 0; kind < 3; kind++) {
            for (int floor = 0; floor <= 9; floor += 9) {
                String text = "g" + kind + "," + floor + ";";
                CHECK.due("waking of " + text, Hotel.laid(text).guest(0, 3), minutes[kind]);
                endOf(text, floor + minutes[kind]);
            }
        }
    }

    /** "of a DEAF one 2 and 1 for each FLOOR below his" */
    private static void wakingOfADeafOneByFloor() {
        for (int floor = 0; floor <= 9; floor++) {
            CHECK.due("waking on floor " + floor, Hotel.laid("g3," + floor + ";").guest(0, 3), 2 + floor);
            endOf("g3," + floor + ";", 2 + 2 * floor);
        }
        BootsAtDawn boots = Hotel.laid("g3,0;");
        boots.move(0, 9);
        CHECK.due("waking behind a move up", boots.guest(0, 3), 11);
        CHECK.due("end behind a move up", boots.soonest(0), 20);
        boots.move(0, 0);
        CHECK.due("waking behind a move down", boots.guest(0, 3), 2);
        boots.leave(0);
        boots.move(0, 1);
        CHECK.due("waking of one who has left", boots.guest(0, 3), 3);
    }

    /** "A comes ahead of B (before)" */
    private static void keptBefore() {
        goodOf("g0,0;g0,0;b0,1;", 1);
        order("before", Hotel.laid("g0,0;g0,0;b0,1;"), 0, 1);
        order("before, the other way", Hotel.laid("g0,0;g0,0;b1,0;"), 1, 0);
        goodOf(Hotel.guests(3) + "b0,2;", 3);
        goodOf(Hotel.guests(6) + "b0,5;", 360);
        goodOf(Hotel.guests(6) + "b5,0;", 360);
        goodOf(Hotel.guests(2) + "b0,1;b1,0;", 0);
        CHECK.due("before from afar", Hotel.laid(Hotel.guests(6) + "b0,5;").place(5, 1), 6);
        CHECK.due("before, right ahead", Hotel.laid(Hotel.guests(6) + "b0,5;").place(5, 0), 2);
    }

    /** "A behind B, none between them (just after)" */
    private static void keptJustAfter() {
        order("just after", Hotel.laid("g0,0;g0,0;a0,1;"), 1, 0);
        goodOf("g0,0;g0,0;a0,1;", 1);
        goodOf("g0,0;g0,0;a0,1;a1,0;", 0);
        goodOf(Hotel.guests(3) + "a2,0;", 2);
        goodOf(Hotel.guests(3) + "a2,0;b0,1;b1,2;", 0);
        goodOf(Hotel.guests(3) + "a2,0;b1,0;", 1);
        goodOf(Hotel.guests(6) + "a5,0;", 120);
        goodOf(Hotel.guests(6) + "a0,5;a1,0;a2,1;a3,2;a4,3;", 1);
        order("each just after another one", Hotel.laid(Hotel.guests(6) + "a0,5;a1,0;a2,1;a3,2;a4,3;"), 5, 0, 1, 2, 3, 4);
        goodOf(Hotel.guests(3) + "a1,0;a2,0;", 0);
    }

    /** "A ahead of all (first)" */
    private static void keptFirst() {
        goodOf("g0,0;f0;", 1);
        goodOf("g0,0;g0,0;f1;", 1);
        goodOf(Hotel.guests(6) + "f5;", 120);
        order("first", Hotel.laid(Hotel.guests(6) + "f5;"), 5, 0, 1, 2, 3, 4);
        goodOf(Hotel.guests(6) + "f0;f0;", 120);
        goodOf(Hotel.guests(6) + "f0;f1;", 0);
        goodOf(Hotel.guests(2) + "f0;b1,0;", 0);
        BootsAtDawn boots = Hotel.laid(Hotel.guests(3) + "f0;f1;");
        boots.leave(0);
        CHECK.due("first of those here", boots.good(0), 1);
        order("first of those here", boots, 1, 2);
    }

    /** "if the TIME of A is no sooner (so it always is)" */
    private static void keptNotSooner() {
        goodOf("g0,0;n0,0;", 1);
        goodOf("g0,0;n0,99;", 1);
        goodOf(Hotel.guests(6) + "n0,99;n1,99;n2,99;n3,99;n4,99;n5,99;n0,0;n1,0;n2,0;", 720);
        CHECK.due("most of not sooner", Hotel.laid("g0,0;n0,0;n0,99;n0,50;").most(1), 7);
    }

    /** "no later than told" */
    private static void keptNotLater() {
        goodOf("g0,5;u0,4;", 0);
        goodOf("g0,5;u0,5;", 1);
        goodOf("g0,5;u0,6;", 1);
        goodOf("g0,0;u0,0;", 1);
        goodOf("g0,0;u0,0;s1;", 0);
        goodOf("g0,5;u0,5;s1;", 0);
        goodOf("g0,5;u0,6;s1;", 1);
        goodOf("g0,0;u0,99;s99;", 1);
        goodOf("g0,1;u0,99;s99;", 0);
        goodOf("g0,1;u0,99;s98;", 1);
        goodOf("g0,0;g1,0;u0,2;", 1);
        goodOf("g0,0;g1,0;u0,3;", 2);
        goodOf("g0,0;n0,7;u0,6;", 0);
        goodOf("g0,0;n0,7;u0,7;", 1);
    }

    /** "that is that GUEST's TIME; then WAKING" */
    private static void keptNotLaterByTimeAheadOfWaking() {
        goodOf("g1,5;u0,5;", 1);
        goodOf("g3,9;u0,9;", 1);
        goodOf("g3,9;u0,8;", 0);
        goodOf("g3,9;g0,9;b0,1;u1,20;", 1);
        goodOf("g3,9;g0,9;b0,1;u1,19;", 0);
    }

    /** "A GUEST can LEAVE, come again" */
    private static void guestCanLeaveComeAgain() {
        BootsAtDawn boots = Hotel.laid("g0,1;g1,8;b1,0;");
        CHECK.due("all here", boots.soonest(0), 8 + 3 + 7 + 1);
        CHECK.due("leaves", boots.leave(1), 0);
        CHECK.due("without him", boots.soonest(0), 2);
        CHECK.due("his floor is as it was", boots.guest(1, 1), 8);
        CHECK.due("his kind is as it was", boots.guest(1, 0), 1);
        CHECK.due("comes again", boots.leave(1), 1);
        CHECK.due("with him", boots.soonest(0), 8 + 3 + 7 + 1);
    }

    /** "MOVE to another FLOOR" */
    private static void guestCanMove() {
        BootsAtDawn boots = Hotel.laid("g0,0;");
        int[] floors = {9, 0, 1, 8, 9};
        int old = 0;
        for (int floor : floors) {
            CHECK.due("where he was", boots.move(0, floor), old);
            CHECK.due("there already", boots.move(0, floor), NO);
            CHECK.due("where he is", boots.guest(0, 1), floor);
            CHECK.due("the round goes there", boots.soonest(0), floor + 1);
            old = floor;
        }
        boots.leave(0);
        CHECK.due("one who has left moves", boots.move(0, 0), 9);
        CHECK.due("one who has left is there already", boots.move(0, 0), NO);
        boots.leave(0);
        CHECK.due("comes again to his new floor", boots.soonest(0), 1);
    }

    /** "a WISH be STRUCK OUT, written again" */
    private static void wishCanBeStruckOutWrittenAgain() {
        BootsAtDawn boots = Hotel.laid("g0,0;g0,0;b0,1;b1,0;");
        CHECK.due("none is good", boots.good(0), 0);
        CHECK.due("struck out", boots.strike(0, true), 1);
        order("struck out", boots, 1, 0);
        CHECK.due("struck out already", boots.strike(0, true), NO);
        CHECK.due("the other one, too", boots.strike(1, true), 2);
        CHECK.due("all are good", boots.good(0), 2);
        CHECK.due("written again", boots.strike(0, false), 1);
        order("written again", boots, 0, 1);
        CHECK.due("written already", boots.strike(0, false), NO);
        CHECK.due("both written again", boots.strike(1, false), 0);
        CHECK.due("none is good again", boots.good(0), 0);
    }

    /** "UNDONE is the latest of these" */
    private static void undoneIsTheLatest() {
        BootsAtDawn boots = Hotel.laid("g0,0;g0,2;b0,1;");
        boots.leave(1);
        boots.leave(1);
        boots.move(1, 7);
        boots.strike(0, true);
        boots.strike(0, false);
        CHECK.due("undo of written again", boots.undo(), 4);
        CHECK.due("struck out", boots.count(4), 1);
        CHECK.due("undo of struck out", boots.undo(), 3);
        CHECK.due("not struck out", boots.count(4), 0);
        CHECK.due("not moved back yet", boots.guest(1, 1), 7);
        CHECK.due("undo of a move", boots.undo(), 2);
        CHECK.due("moved back", boots.guest(1, 1), 2);
        CHECK.due("undo of coming again", boots.undo(), 1);
        CHECK.due("has left", boots.guest(1, 2), 0);
        CHECK.due("undo of leaving", boots.undo(), 0);
        CHECK.due("is here", boots.guest(1, 2), 1);
        CHECK.due("nothing to undo", boots.undo(), NO);
    }

    /** "the last 8 can be" */
    private static void last8CanBeUndone() {
        for (int changes = 0; changes <= 20; changes++) {
            BootsAtDawn boots = Hotel.laid("g0,0;");
            for (int i = 1; i <= changes; i++) {
                boots.move(0, i % 10);
            }
            int more = Math.min(changes, 8);
            CHECK.due("can be undone of " + changes, boots.count(7), more);
            for (int i = 1; i <= more; i++) {
                CHECK.due("undo of " + changes, boots.undo(), more - i);
                CHECK.due("floor, undone of " + changes, boots.guest(0, 1), (changes - i) % 10);
            }
            CHECK.due("no more of " + changes, boots.undo(), NO);
            CHECK.due("floor, all undone of " + changes, boots.guest(0, 1), (changes - more) % 10);
            boots.leave(0);
            CHECK.due("there is room again", boots.count(7), 1);
        }
        BootsAtDawn boots = Hotel.laid(Hotel.guests(6) + "f0;");
        Hotel.leave(boots, 0, 1, 2, 3, 4, 5);
        boots.strike(0, true);
        boots.move(0, 1);
        boots.undo();
        boots.move(0, 2);
        CHECK.due("8 again behind one undone", boots.count(7), 8);
        boots.move(0, 3);
        CHECK.due("the 9th takes the place of the first", boots.count(7), 8);
        for (int i = 0; i < 8; i++) {
            boots.undo();
        }
        CHECK.due("all of the last 8 are undone", boots.count(1), 5);
        CHECK.due("the first one has left still", boots.guest(0, 2), 0);
    }

    /** "UNDONE is the latest of these": nothing but these, and none that was refused */
    private static void nothingElseIsUndone() {
        BootsAtDawn boots = Hotel.laid("g0,0;g0,2;b0,1;");
        boots.move(0, 0);
        boots.move(0, 10);
        boots.strike(0, false);
        boots.strike(1, true);
        boots.leave(2);
        boots.woken(0, 1);
        boots.keep();
        boots.write('x');
        boots.wipe();
        boots.forget();
        CHECK.due("nothing can be undone", boots.count(7), 0);
        CHECK.due("undo", boots.undo(), NO);
        boots.leave(0);
        boots.woken(0, 1);
        boots.keep();
        boots.write('x');
        CHECK.due("undo of leaving", boots.undo(), 0);
        CHECK.due("woken stays", boots.count(6), 1);
        CHECK.due("kept stay", boots.count(8), 2);
        CHECK.due("letters stay", boots.count(9), 1);
    }
}
