/** "Terms", section 4 and what follows it: mornings, two boots, chance, dawns, slates kept, each bound on both sides. */
final class Terms4Test {
    private static final int BAD = Hotel.BAD, NO = Hotel.NO, FULL = Hotel.FULL, NONE = Hotel.NONE;
    private static final Check CHECK = new Check("Terms4Test");

    public static void main(String[] args) {
        wokenAre6AtMost();
        wokenOfOneWhoHasLeftDoesNotCount();
        slatesOfAllTwosHere();
        slatesInWhichAllThatWasWokenIsSo();
        slatesFirstAs10TimesAAndB();
        slatesNone();
        washedGoodOrNot();
        washedAllThatWasWoken();
        twoShareAllHere();
        twoEndBehindHighestFloorAndWaking();
        twoLeaveWishesAside();
        twoOfSeveralTheLowest();
        oversleptBy0To10OfTen();
        oversleptForHimselfAndThoseOnWhomHeHangs();
        oversleptByThoseHere();
        dawnByZ0To9999();
        dawnOf1To40();
        dawnOnTheKthTheFirstIs0();
        dawnDrawIsCut();
        dawnDrawIsModuloAsManyAsWereTold();
        dawnOnHowManyThereIsAGoodRound();
        keptAre2AtMost();
        keptAreWhoIsHereFloorsWishesThatStand();
        firstOfSeveralAnswers();
        CHECK.end();
    }

    /** "WOKEN (6 at most)" */
    private static void wokenAre6AtMost() {
        BootsAtDawn boots = Hotel.laid(Hotel.guests(6));
        CHECK.due("nothing was woken", boots.forget(), 0);
        for (int told = 1; told <= 6; told++) {
            CHECK.due("woken", boots.woken(told - 1, told % 6), told);
            CHECK.due("how many", boots.count(6), told);
        }
        CHECK.due("the 7th", boots.woken(0, 2), FULL);
        CHECK.due("the 7th, told before", boots.woken(0, 1), FULL);
        CHECK.due("6 still", boots.count(6), 6);
        CHECK.due("6 are forgotten", boots.forget(), 6);
        CHECK.due("none is left", boots.count(6), 0);
        CHECK.due("none is left to forget", boots.forget(), 0);
        CHECK.due("room again", boots.woken(5, 0), 1);
        CHECK.due("the new one alone counts", boots.washed(), 360);
    }

    /** "What was WOKEN of one who has LEFT does not count" */
    private static void wokenOfOneWhoHasLeftDoesNotCount() {
        BootsAtDawn boots = Hotel.laid(Hotel.guests(4));
        boots.woken(0, 1);
        boots.woken(1, 0);
        CHECK.due("both are here", boots.washed(), 0);
        boots.leave(0);
        CHECK.due("one has left", boots.washed(), 6);
        CHECK.due("slates, one has left", boots.slates(0), 6);
        CHECK.due("told still", boots.count(6), 2);
        boots.leave(1);
        CHECK.due("both have left", boots.washed(), 2);
        boots.leave(0);
        CHECK.due("the other one has left", boots.washed(), 6);
        boots.leave(1);
        CHECK.due("both are here again", boots.washed(), 0);
        boots.leave(3);
        CHECK.due("woken of one who has left", boots.woken(3, 2), 3);
        CHECK.due("forgotten, those of one who has left, too", boots.forget(), 3);
    }

    /** "of all twos A, B of GUESTS HERE those of which there is a GOOD ROUND with A ahead of B" */
    private static void slatesOfAllTwosHere() {
        BootsAtDawn boots = Hotel.laid(Hotel.guests(6));
        int[] twos = {30, 20, 12, 6, 2, 0, 0};
        for (int left = 0; left <= 6; left++) {
            CHECK.due("twos without " + left, boots.slates(0), twos[left]);
            CHECK.due("first without " + left, boots.slates(1), left < 5 ? 10 * left + left + 1 : NONE);
            boots.leave(left);
        }
        CHECK.due("of a chain", Hotel.laid(Hotel.guests(6) + "b0,1;b1,2;b2,3;b3,4;b4,5;").slates(0), 15);
        CHECK.due("of a wish", Hotel.laid(Hotel.guests(3) + "b0,1;").slates(0), 5);
        CHECK.due("of one alone", Hotel.laid("g0,0;").slates(0), 0);
    }

    /** "in which all that was WOKEN is so" */
    private static void slatesInWhichAllThatWasWokenIsSo() {
        BootsAtDawn boots = Hotel.laid(Hotel.guests(3));
        boots.woken(0, 1);
        CHECK.due("one woken", boots.slates(0), 5);
        boots.woken(1, 2);
        CHECK.due("two woken, one round", boots.slates(0), 3);
        boots.woken(0, 1);
        CHECK.due("told twice", boots.slates(0), 3);
        boots.woken(2, 0);
        CHECK.due("a ring", boots.slates(0), 0);
        boots = Hotel.laid(Hotel.guests(3) + "f0;");
        boots.woken(0, 2);
        CHECK.due("what is so at any rate", boots.slates(0), 4);
        boots.woken(1, 0);
        CHECK.due("in no good round", boots.slates(0), 0);
        CHECK.due("but in a round", boots.washed(), 1);
    }

    /** "the first (by A, then B), as 10 times A and B" */
    private static void slatesFirstAs10TimesAAndB() {
        for (int a = 0; a < 6; a++) {
            for (int b = 0; b < 6; b++) {
                if (a != b) {
                    BootsAtDawn boots = Hotel.laid(Hotel.guests(6) + "b" + a + "," + b + ";");
                    for (int g = 0; g < 6; g++) {
                        if (g != a && g != b) {
                            boots.leave(g);
                        }
                    }
                    CHECK.due("the only one", boots.slates(0), 1);
                    CHECK.due("the only one's number", boots.slates(1), 10 * a + b);
                }
            }
        }
        CHECK.due("by A", Hotel.laid(Hotel.guests(3) + "b1,0;b2,0;").slates(1), 10);
        CHECK.due("then B", Hotel.laid(Hotel.guests(3) + "b1,0;").slates(1), 2);
    }

    /** "none" */
    private static void slatesNone() {
        BootsAtDawn boots = Hotel.laid(Hotel.guests(2) + "b0,1;b1,0;");
        CHECK.due("no good round: how many", boots.slates(0), 0);
        CHECK.due("no good round: the first", boots.slates(1), NONE);
        boots.strike(1, true);
        CHECK.due("a good one: how many", boots.slates(0), 1);
        CHECK.due("a good one: the first", boots.slates(1), 1);
        boots.woken(1, 0);
        CHECK.due("it can not have been: how many", boots.slates(0), 0);
        CHECK.due("it can not have been: the first", boots.slates(1), NONE);
        boots.leave(0);
        CHECK.due("one alone: how many", boots.slates(0), 0);
        CHECK.due("one alone: the first", boots.slates(1), NONE);
        boots.leave(1);
        CHECK.due("nobody: how many", boots.slates(0), 0);
        CHECK.due("nobody: the first", boots.slates(1), NONE);
    }

    /** "WASHED: in how many ROUNDS (GOOD or not)" */
    private static void washedGoodOrNot() {
        CHECK.due("none is good", Hotel.laid(Hotel.guests(6) + "f0;f1;").washed(), 720);
        CHECK.due("one is good", Hotel.laid(Hotel.guests(3) + "b2,1;b1,0;").washed(), 6);
        CHECK.due("one alone, not good", Hotel.laid("g0,9;u0,0;").washed(), 1);
        BootsAtDawn boots = Hotel.laid("g0,9;u0,0;");
        boots.leave(0);
        CHECK.due("nobody", boots.washed(), 1);
    }

    /** "in how many ROUNDS all that was WOKEN is so" */
    private static void washedAllThatWasWoken() {
        BootsAtDawn boots = Hotel.laid(Hotel.guests(6) + "f5;");
        int[] rounds = {360, 120, 30, 6, 1};
        for (int a = 0; a < 5; a++) {
            boots.woken(a, a + 1);
            CHECK.due("a chain of " + (a + 2), boots.washed(), rounds[a]);
        }
        boots.woken(0, 5);
        CHECK.due("what is so at any rate", boots.washed(), 1);
        boots.leave(2);
        CHECK.due("without one between", boots.washed(), 9);
        boots.forget();
        boots.leave(2);
        CHECK.due("all forgotten", boots.washed(), 720);
        boots.woken(3, 2);
        boots.woken(2, 3);
        CHECK.due("one against the other", boots.washed(), 0);
    }

    private static void two(String what, BootsAtDawn boots, int when, int which) {
        CHECK.due(what + ": when", boots.two(0), when);
        CHECK.due(what + ": which", boots.two(1), which);
    }

    /** "all HERE shared among two boots, who both begin at S on FLOOR 0", "(none of his: at S)" */
    private static void twoShareAllHere() {
        int[] starts = {0, 1, 99};
        for (int start : starts) {
            BootsAtDawn boots = Hotel.laid("g0,4;g0,4;s" + start + ";");
            two("two here", boots, start + 5, 1);
            boots.leave(0);
            two("one here", boots, start + 5, 0);
            boots.leave(1);
            two("nobody here", boots, start, 0);
            boots.leave(0);
            two("the other one here", boots, start + 5, 0);
        }
        BootsAtDawn boots = Hotel.laid("g3,9;g0,1;g0,1;");
        two("three here", boots, 20, 1);
        boots.leave(0);
        two("one of three has left", boots, 2, 2);
    }

    /** "each ends behind as many minutes as his highest FLOOR, and all his WAKING" */
    private static void twoEndBehindHighestFloorAndWaking() {
        two("floors alone", Hotel.laid("g2,9;g2,1;g2,8;"), 9, 0);
        two("waking alone", Hotel.laid("g1,0;g1,0;g0,0;"), 4, 1);
        two("both", Hotel.laid("g1,9;g0,8;g1,1;"), 12, 1);
        two("the highest floor once", Hotel.laid("g0,9;g0,9;g0,9;g0,9;"), 11, 3);
        two("a deaf one's floor twice", Hotel.laid("g3,9;g3,9;"), 20, 1);
        BootsAtDawn boots = Hotel.laid("g3,9;g3,9;");
        boots.move(0, 0);
        two("behind a move", boots, 20, 1);
        boots.move(1, 0);
        two("behind both moves", boots, 2, 1);
    }

    /** "all WISHES aside" */
    private static void twoLeaveWishesAside() {
        two("wishes", Hotel.laid("g0,1;g0,1;n0,99;u1,0;b0,1;b1,0;f0;f1;a0,1;a1,0;"), 2, 1);
    }

    /** "when the later one ends at least; whom the first one has (bits; of several the lowest)" */
    private static void twoOfSeveralTheLowest() {
        two("six alike", Hotel.laid(Hotel.guests(6)), 3, 7);
        two("five alike", Hotel.laid(Hotel.guests(5)), 3, 3);
        two("four light ones", Hotel.laid("g2,0;g2,0;g2,0;g2,0;"), 0, 0);
        two("the heavy one last", Hotel.laid("g0,0;g0,0;g0,0;g1,0;"), 3, 7);
        two("the heavy one first", Hotel.laid("g1,0;g0,0;g0,0;g0,0;"), 3, 1);
        BootsAtDawn boots = Hotel.laid(Hotel.guests(6));
        Hotel.leave(boots, 0, 1);
        two("the lowest of those here", boots, 2, 12);
        Hotel.leave(boots, 2, 3);
        two("the lowest of the last two", boots, 1, 16);
    }

    private static void chance(String what, BootsAtDawn boots, int g, int x, int above, int below) {
        CHECK.due(what + ", " + x + " of ten: above", boots.overslept(g, x, 0), above);
        CHECK.due(what + ", " + x + " of ten: below", boots.overslept(g, x, 1), below);
    }

    /** "oversleeps by x (0 to 10) of ten", "in lowest terms" */
    private static void oversleptBy0To10OfTen() {
        int[] above = {1, 9, 4, 7, 3, 1, 2, 3, 1, 1, 0};
        int[] below = {1, 10, 5, 10, 5, 2, 5, 10, 5, 10, 1};
        BootsAtDawn boots = Hotel.laid(Hotel.guests(6) + "b0,1;b1,2;b2,3;b3,4;b4,5;");
        for (int x = 0; x <= 10; x++) {
            int powerAbove = 1;
            int powerBelow = 1;
            for (int g = 0; g < 6; g++) {
                powerAbove *= above[x];
                powerBelow *= below[x];
                chance("he and " + g + " others", boots, g, x, powerAbove, powerBelow);
            }
        }
        CHECK.due("-1 of ten", boots.overslept(0, -1, 0), BAD);
        CHECK.due("11 of ten", boots.overslept(0, 11, 0), BAD);
    }

    /** "the chance that neither one GUEST does, nor any on whom he HANGS (of whom he is one of those who HANG)" */
    private static void oversleptForHimselfAndThoseOnWhomHeHangs() {
        BootsAtDawn boots = Hotel.laid(Hotel.guests(4) + "b0,1;a1,2;f3;n3,5;u3,9;");
        chance("hangs on nobody", boots, 0, 1, 9, 10);
        chance("hangs on two", boots, 1, 1, 729, 1000);
        chance("hangs on nobody, others hang on him", boots, 2, 1, 9, 10);
        chance("first, not sooner, not later", boots, 3, 1, 9, 10);
        boots = Hotel.laid(Hotel.guests(6) + "a0,5;a1,0;a2,1;a3,2;a4,3;a5,4;");
        chance("a ring of six, himself once", boots, 3, 5, 1, 64);
        boots = Hotel.laid(Hotel.guests(3) + "b0,2;b1,2;b0,2;a2,0;");
        chance("each but once", boots, 2, 2, 64, 125);
    }

    /** "each HERE oversleeps" */
    private static void oversleptByThoseHere() {
        BootsAtDawn boots = Hotel.laid(Hotel.guests(3) + "b0,1;b1,2;b0,2;");
        chance("all here", boots, 2, 1, 729, 1000);
        boots.leave(1);
        chance("one between has left", boots, 2, 1, 81, 100);
        CHECK.due("one who has left: above", boots.overslept(1, 1, 0), NO);
        CHECK.due("one who has left: below", boots.overslept(1, 1, 1), NO);
        boots.strike(2, true);
        chance("a wish struck out", boots, 2, 1, 9, 10);
        boots.leave(1);
        chance("comes again", boots, 2, 1, 729, 1000);
    }

    /** All deaf, on floors 0 to 5: without guest g the soonest round ends at 30, 29, 28, 27, 26, 24. */
    private static BootsAtDawn sixWhoCanBeToldApart() {
        return Hotel.laid("g3,0;g3,1;g3,2;g3,3;g3,4;g3,5;");
    }

    /** "A DAWN by z (0 to 9999)" */
    private static void dawnByZ0To9999() {
        BootsAtDawn boots = sixWhoCanBeToldApart();
        // z, end of the first dawn, of 39, of 40
        int[][] rows = {{0, 30, 1083, 1113}, {1, 30, 1079, 1105}, {5, 24, 1064, 1090}, {6, 26, 1076, 1105}, {9998, 26, 1062, 1091}, {9999, 26, 1080, 1104}};
        CHECK.due("z = -1", boots.dawn(-1, 1, 0), BAD);
        CHECK.due("z = 10000", boots.dawn(10000, 1, 0), BAD);
        for (int[] row : rows) {
            CHECK.due("first dawn by " + row[0], boots.dawn(row[0], 1, 1), row[1]);
            CHECK.due("39 dawns by " + row[0], boots.dawn(row[0], 39, 1), row[2]);
            CHECK.due("40 dawns by " + row[0], boots.dawn(row[0], 40, 1), row[3]);
            CHECK.due("good ones of 40 by " + row[0], boots.dawn(row[0], 40, 0), 40);
        }
    }

    /** "of n (1 to 40)" */
    private static void dawnOf1To40() {
        BootsAtDawn boots = sixWhoCanBeToldApart();
        CHECK.due("n = 0", boots.dawn(7, 0, 0), BAD);
        CHECK.due("n = 41", boots.dawn(7, 41, 0), BAD);
        int before = 0;
        for (int n = 1; n <= 40; n++) {
            CHECK.due("how many of " + n, boots.dawn(7, n, 0), n);
            int minutes = boots.dawn(7, n, 1);
            CHECK.holds("one dawn more ends at 24 to 30", minutes - before >= 24 && minutes - before <= 30);
            before = minutes;
        }
    }

    /** "on the k-th (0 first) all are HERE who are, but GUEST DRAW" */
    private static void dawnOnTheKthTheFirstIs0() {
        BootsAtDawn boots = sixWhoCanBeToldApart();
        // by z = 0: x is 1, 6152, 12303; DRAW is 0, 5185, 1287, modulo six 0, 1, 3
        CHECK.due("without guest 0", boots.dawn(0, 1, 1), 30);
        CHECK.due("then without guest 1", boots.dawn(0, 2, 1), 30 + 29);
        CHECK.due("then without guest 3", boots.dawn(0, 3, 1), 30 + 29 + 27);
        CHECK.due("all are here still", boots.count(1), 6);
    }

    /** "((x times x) modulo 65521) by 8, cut" */
    private static void dawnDrawIsCut() {
        // by z = 4003 (x times x) modulo 65521 is 7, by 8580 it is 15
        BootsAtDawn boots = sixWhoCanBeToldApart();
        CHECK.due("7 by 8", boots.dawn(4003, 1, 1), 30);
        CHECK.due("15 by 8", boots.dawn(8580, 1, 1), 29);
    }

    /** "GUEST DRAW modulo as many as were told (those who have LEFT, too)" */
    private static void dawnDrawIsModuloAsManyAsWereTold() {
        // by z = 0 DRAW is 0, 5185: guest 0, then guest 1 of three or of two
        BootsAtDawn boots = Hotel.laid("g2,1;g2,5;g2,9;");
        CHECK.due("all here", boots.dawn(0, 2, 1), 18);
        boots.leave(2);
        CHECK.due("one has left", boots.dawn(0, 2, 1), 5 + 1);
        // by z = 5 DRAW is 7091: guest 2 of three, but 1 of two
        CHECK.due("he who has left is drawn", boots.dawn(5, 1, 1), 5);
        boots.leave(0);
        CHECK.due("one who has left is drawn", boots.dawn(0, 1, 1), 5);
        CHECK.due("nobody is left then", boots.dawn(0, 2, 1), 5);
        CHECK.due("a dawn of nobody is a good one", boots.dawn(0, 2, 0), 2);
        boots.leave(1);
        CHECK.due("nobody is here", boots.dawn(0, 40, 0), 40);
        CHECK.due("nobody is here: when", boots.dawn(0, 40, 1), 0);
        boots = Hotel.laid("g2,9;s99;");
        CHECK.due("the only one is drawn each time", boots.dawn(9999, 40, 1), 40 * 99);
    }

    /** "on how many there is a GOOD ROUND; when the SOONEST ones end in all" */
    private static void dawnOnHowManyThereIsAGoodRound() {
        // by z = 0 it is guest 0, then 1, then 0 of three
        BootsAtDawn boots = Hotel.laid("g2,0;g2,0;g2,0;f1;f2;s7;");
        CHECK.due("no good one", boots.dawn(0, 1, 0), 0);
        CHECK.due("no good one: when", boots.dawn(0, 1, 1), 0);
        CHECK.due("a good one behind it", boots.dawn(0, 2, 0), 1);
        CHECK.due("a good one behind it: when", boots.dawn(0, 2, 1), 7);
        boots.strike(0, true);
        CHECK.due("two good ones", boots.dawn(0, 2, 0), 2);
        CHECK.due("two good ones: when", boots.dawn(0, 2, 1), 14);
        boots = Hotel.laid("g0,0;u0,0;s1;");
        CHECK.due("no good one of today", boots.good(0), 0);
        CHECK.due("good ones of all dawns", boots.dawn(0, 40, 0), 40);
        boots = Hotel.laid("g0,3;g0,1;g0,9;b0,1;");
        CHECK.due("the soonest good ones", boots.dawn(0, 2, 1), 11 + 11);
    }

    /** "KEPT are who is HERE, FLOORS, WISHES that stand: 2 at most" */
    private static void keptAre2AtMost() {
        BootsAtDawn boots = Hotel.laid(Hotel.guests(3));
        CHECK.due("none is kept", boots.back(), NO);
        boots.leave(0);
        CHECK.due("one is kept", boots.keep(), 1);
        boots.leave(1);
        CHECK.due("two are kept", boots.keep(), 2);
        boots.leave(2);
        CHECK.due("a third one", boots.keep(), FULL);
        CHECK.due("two still", boots.count(8), 2);
        CHECK.due("back to the second", boots.back(), 1);
        CHECK.due("as kept second", boots.count(1), 1);
        CHECK.due("there is room again", boots.keep(), 2);
        CHECK.due("and no more", boots.keep(), FULL);
        CHECK.due("back to the second again", boots.back(), 1);
        CHECK.due("back to the first", boots.back(), 0);
        CHECK.due("as kept first", boots.count(1), 2);
        CHECK.due("back to none", boots.back(), NO);
        CHECK.due("as kept first still", boots.count(1), 2);
    }

    /** "KEPT are who is HERE, FLOORS, WISHES that stand" */
    private static void keptAreWhoIsHereFloorsWishesThatStand() {
        BootsAtDawn boots = Hotel.laid("g0,9;g0,0;g0,0;g0,0;g0,0;g3,9;" + "f5;".repeat(8) + "b0,5;");
        boots.move(1, 9);
        boots.strike(8, true);
        boots.strike(0, true);
        boots.leave(4);
        boots.keep();
        boots.move(0, 0);
        boots.move(5, 0);
        boots.move(1, 1);
        boots.strike(8, false);
        boots.strike(0, false);
        boots.strike(4, true);
        Hotel.leave(boots, 0, 4, 5);
        boots.woken(0, 1);
        boots.write('g');
        CHECK.due("back", boots.back(), 0);
        int[] floors = {9, 9, 0, 0, 0, 9};
        for (int g = 0; g < 6; g++) {
            CHECK.due("here as kept", boots.guest(g, 2), g == 4 ? 0 : 1);
            CHECK.due("floor as kept", boots.guest(g, 1), floors[g]);
        }
        CHECK.due("stand as kept", Hotel.standing(boots), 254);
        CHECK.due("struck out as kept", boots.count(4), 2);
        CHECK.due("woken is not kept", boots.count(6), 1);
        CHECK.due("waking goes by the floor as kept", boots.guest(5, 3), 11);
    }

    /** "Of several the first in this order, whatever the order at a call" */
    private static void firstOfSeveralAnswers() {
        BootsAtDawn boots = Hotel.laid("g0,4;g0,0;b0,1;b1,0;");
        CHECK.due("BAD ahead of NONE: good", boots.good(7), BAD);
        CHECK.due("BAD ahead of NONE: soonest", boots.soonest(-1), BAD);
        CHECK.due("BAD ahead of NONE: place", boots.place(0, 2), BAD);
        CHECK.due("BAD ahead of NONE: ahead", boots.ahead(0, 0), BAD);
        CHECK.due("BAD ahead of NONE: slates", boots.slates(2), BAD);
        CHECK.due("BAD ahead of NO: move", boots.move(0, 10), BAD);
        CHECK.due("BAD ahead of NO: strike", boots.strike(2, false), BAD);
        boots.leave(0);
        CHECK.due("BAD ahead of NO: overslept, x", boots.overslept(0, 11, 0), BAD);
        CHECK.due("BAD ahead of NO: overslept, part", boots.overslept(0, 0, 2), BAD);
        CHECK.due("BAD ahead of NONE of one who has left: place", boots.place(0, -1), BAD);
        CHECK.due("BAD ahead of NONE of one who has left: ahead", boots.ahead(0, 0), BAD);
        CHECK.due("BAD ahead of NONE of one who has left: ahead of none", boots.ahead(0, 2), BAD);
        for (int told = 0; told < 6; told++) {
            boots.woken(0, 1);
        }
        CHECK.due("BAD ahead of FULL: woken, alike", boots.woken(1, 1), BAD);
        CHECK.due("BAD ahead of FULL: woken, no guest", boots.woken(0, 2), BAD);
        Hotel.put(boots, "x".repeat(200));
        CHECK.due("BAD ahead of FULL: write", boots.write(127), BAD);
        CHECK.due("FULL: write", boots.write(126), FULL);
    }
}
