/** "Terms", section 3: each sentence about good rounds, wishes kept and places that names a bound, on both sides of it. */
final class Terms3Test {
    private static final int NO = Hotel.NO, NONE = Hotel.NONE;
    private static final Check CHECK = new Check("Terms3Test");

    public static void main(String[] args) {
        goodHowMany();
        goodFirstByFirstGuestThenSecond();
        goodNone();
        soonestEndsBehindItsLastWaking();
        soonestOfSeveralTheFirst();
        soonestIsAGoodOne();
        soonestNone();
        mostHowMany();
        mostOfSeveralTheLowest();
        mostOfNoWishes();
        coreOfOne();
        coreIsTheFewest();
        coreOfSeveralTheLowest();
        coreWaitsAsAllThatStand();
        coreNone();
        placeEarliestAndLatest();
        placeNone();
        aheadInAllGoodRounds();
        aheadNone();
        hangsOnTheOthers();
        hangsThroughOthers();
        hangsByWishesThatStand();
        hangsOnNobodyElse();
        CHECK.end();
    }

    private static void good(BootsAtDawn boots, int... want) {
        for (int k = 1; k <= 6; k++) {
            CHECK.due("good(" + k + ")", boots.good(k), k <= want.length ? want[k - 1] : NONE);
        }
    }

    private static void soonest(BootsAtDawn boots, int end, int... want) {
        CHECK.due("soonest(0)", boots.soonest(0), end);
        for (int k = 1; k <= 6; k++) {
            CHECK.due("soonest(" + k + ")", boots.soonest(k), k <= want.length ? want[k - 1] : NONE);
        }
    }

    private static void most(String wishes, int many, int which) {
        BootsAtDawn boots = Hotel.laid(wishes);
        CHECK.due("most(0) of " + wishes, boots.most(0), many);
        CHECK.due("most(1) of " + wishes, boots.most(1), which);
    }

    private static void core(String wishes, int want) {
        CHECK.due("core of " + wishes, Hotel.laid(wishes).core(), want);
    }

    /** "GOOD are ROUNDS that KEEP all that stands: how many" */
    private static void goodHowMany() {
        CHECK.due("all of six", Hotel.laid(Hotel.guests(6)).good(0), 720);
        CHECK.due("one of six", Hotel.laid(Hotel.guests(6) + "b0,1;b1,2;b2,3;b3,4;b4,5;").good(0), 1);
        CHECK.due("one of one", Hotel.laid("g0,0;").good(0), 1);
        BootsAtDawn boots = Hotel.laid(Hotel.guests(2) + "f0;f1;");
        CHECK.due("none", boots.good(0), 0);
        boots.strike(1, true);
        CHECK.due("of what stands", boots.good(0), 1);
        boots.strike(0, true);
        CHECK.due("nothing stands", boots.good(0), 2);
    }

    /** "the k-th GUEST of the first (by the first GUEST, then the second, ..)" */
    private static void goodFirstByFirstGuestThenSecond() {
        good(Hotel.laid(Hotel.guests(6)), 0, 1, 2, 3, 4, 5);
        good(Hotel.laid(Hotel.guests(6) + "b5,4;b4,3;b3,2;b2,1;b1,0;"), 5, 4, 3, 2, 1, 0);
        good(Hotel.laid(Hotel.guests(3) + "b1,0;"), 1, 0, 2);
        good(Hotel.laid(Hotel.guests(3) + "b2,1;"), 0, 2, 1);
        good(Hotel.laid(Hotel.guests(4) + "f1;a0,3;"), 1, 2, 3, 0);
        good(Hotel.laid("g0,0;"), 0);
        BootsAtDawn boots = Hotel.laid(Hotel.guests(6));
        Hotel.leave(boots, 0, 2, 4);
        good(boots, 1, 3, 5);
    }

    /** "none" (promise 12: "0: there is none", "NONE: there are not so many") */
    private static void goodNone() {
        BootsAtDawn boots = Hotel.laid(Hotel.guests(6) + "f0;f1;");
        CHECK.due("good(0), none", boots.good(0), 0);
        good(boots);
        boots.strike(0, true);
        good(boots, 1, 0, 2, 3, 4, 5);
        boots.leave(5);
        good(boots, 1, 0, 2, 3, 4);
        Hotel.leave(boots, 0, 1, 2, 3);
        good(boots, 4);
        boots.leave(4);
        CHECK.due("good(0), nobody", boots.good(0), 1);
        good(boots);
    }

    /** "the one that ends first (behind its last WAKING)" */
    private static void soonestEndsBehindItsLastWaking() {
        // 0, 1: the last TIME is 13, the end 13; 1, 0: the last TIME is 10, the end 13, too
        soonest(Hotel.laid("g1,0;g2,0;n0,10;"), 13, 0, 1);
        // 1, 0: guest 0 is woken from 10 to 11; 0, 1: guest 1 is woken from 11 to 14
        soonest(Hotel.laid("g0,0;g1,0;n0,10;"), 11, 1, 0);
        soonest(Hotel.laid("g3,9;"), 20, 0);
        soonest(Hotel.laid("g0,3;g0,1;"), 5, 1, 0);
    }

    /** "of several the first" */
    private static void soonestOfSeveralTheFirst() {
        soonest(Hotel.laid("g0,9;g0,9;g0,9;g0,9;g0,9;g0,9;s99;"), 114, 0, 1, 2, 3, 4, 5);
        soonest(Hotel.laid("g0,2;g0,1;g0,2;"), 5, 1, 0, 2);
        soonest(Hotel.laid("g0,2;g0,1;g0,2;b2,0;"), 5, 1, 2, 0);
        soonest(Hotel.laid("g0,0;g0,0;n1,50;"), 51, 0, 1);
        soonest(Hotel.laid("g2,0;g2,0;n0,50;n1,50;"), 50, 0, 1);
    }

    /** "SOONEST: of GOOD ROUNDS" */
    private static void soonestIsAGoodOne() {
        soonest(Hotel.laid("g0,3;g0,1;b0,1;"), 7, 0, 1);
        soonest(Hotel.laid("g0,3;g0,1;u0,3;"), 7, 0, 1);
        soonest(Hotel.laid("g0,3;g0,1;u0,4;"), 5, 1, 0);
        BootsAtDawn boots = Hotel.laid("g0,3;g0,1;b0,1;");
        boots.strike(0, true);
        soonest(boots, 5, 1, 0);
        boots.leave(1);
        soonest(boots, 4, 0);
    }

    /** "none" */
    private static void soonestNone() {
        BootsAtDawn boots = Hotel.laid("g0,3;g0,1;b0,1;b1,0;s9;");
        soonest(boots, NONE);
        boots.leave(0);
        soonest(boots, 11, 1);
        boots.leave(1);
        soonest(boots, 9);
    }

    /** "MOST: the most WISHES that stand that a ROUND KEEPS: how many; which" */
    private static void mostHowMany() {
        most(Hotel.guests(6) + "f0;b0,1;b0,2;b0,3;b0,4;b0,5;n0,0;u0,99;a1,0;", 9, 511);
        most("g0,9;u0,8;", 0, 0);
        most("g0,9;u0,9;", 1, 1);
        most("g0,9;u0,8;u0,9;", 1, 2);
        most("g0,9;f0;f0;f0;f0;f0;f0;f0;f0;u0,8;", 8, 255);
        most("g0,9;u0,8;f0;f0;f0;f0;f0;f0;f0;f0;", 8, 510);
        most("g0,0;g0,0;b0,1;b1,0;b0,1;b1,0;b0,1;b1,0;b0,1;b1,0;f0;", 5, 1 + 4 + 16 + 64 + 256);
        most("g0,0;g0,0;b0,1;b1,0;b0,1;b1,0;b0,1;b1,0;b0,1;b1,0;f1;", 5, 2 + 8 + 32 + 128 + 256);
        most("g0,0;n0,9;u0,8;f0;", 2, 5);
    }

    /** "which, of several such sets the lowest as bits" */
    private static void mostOfSeveralTheLowest() {
        most("g0,0;g0,0;b0,1;b1,0;", 1, 1);
        most("g0,0;g0,0;b1,0;b0,1;", 1, 1);
        most("g0,0;g0,0;b0,1;b0,1;b1,0;b1,0;", 2, 3);
        most("g0,0;g0,0;b1,0;b0,1;b0,1;b1,0;", 2, 6);
        most("g0,0;g0,0;g0,0;f2;f1;f0;", 1, 1);
    }

    /** "the most WISHES that stand" */
    private static void mostOfNoWishes() {
        most(Hotel.guests(6), 0, 0);
        BootsAtDawn boots = Hotel.laid("g0,0;g0,0;b0,1;f0;");
        CHECK.due("both stand", boots.most(1), 3);
        boots.strike(1, true);
        CHECK.due("one stands", boots.most(1), 1);
        boots.leave(1);
        CHECK.due("none stands: how many", boots.most(0), 0);
        CHECK.due("none stands: which", boots.most(1), 0);
        boots.strike(1, false);
        CHECK.due("another one stands", boots.most(1), 2);
    }

    /** "CORE: the fewest WISHES that stand that no ROUND KEEPS all of" */
    private static void coreOfOne() {
        for (int w = 0; w < 9; w++) {
            core("g0,9;" + "f0;".repeat(w) + "u0,8;" + "f0;".repeat(8 - w), 1 << w);
        }
        core("g0,9;" + "u0,8;".repeat(9), 1);
    }

    /** "CORE: the fewest WISHES" */
    private static void coreIsTheFewest() {
        core(Hotel.guests(2) + "b0,1;b1,0;", 3);
        core(Hotel.guests(3) + "b0,1;b1,2;b2,0;", 7);
        core(Hotel.guests(6) + "b0,1;b1,2;b2,3;b3,4;b4,5;b5,0;", 63);
        core(Hotel.guests(6) + "b0,1;b1,2;b2,3;b3,4;b4,5;b5,0;u0,0;f4;f4;", 32 + 64);
        core("g0,5;g0,5;g0,5;b0,1;b1,2;b2,0;u0,4;", 8);
        core(Hotel.guests(3) + "b0,1;b1,2;b2,0;b0,1;b1,0;", 17);
        core(Hotel.guests(3) + "b0,1;b1,2;b2,0;f0;f1;n0,0;n0,0;b2,1;b1,2;", 4 + 8);
    }

    /** "of several sets the lowest as bits" */
    private static void coreOfSeveralTheLowest() {
        core(Hotel.guests(2) + "b0,1;b1,0;b0,1;b1,0;", 3);
        core(Hotel.guests(2) + "b0,1;b0,1;b1,0;b1,0;", 5);
        core(Hotel.guests(3) + "f0;f1;f2;", 3);
        core(Hotel.guests(4) + "f0;b2,3;b3,2;f1;", 6);
    }

    /** "(waiting as all that stand have it)" */
    private static void coreWaitsAsAllThatStand() {
        BootsAtDawn boots = Hotel.laid("g0,0;g0,0;u0,8;n0,9;n1,9;");
        CHECK.due("too late alone, for he waits", boots.core(), 1);
        boots.strike(1, true);
        CHECK.due("he waits no more", boots.core(), NONE);
        boots = Hotel.laid("g0,0;g0,0;u0,8;n1,9;b1,0;");
        CHECK.due("too late behind one who waits", boots.core(), 5);
        boots.leave(1);
        CHECK.due("he has left", boots.core(), NONE);
    }

    /** "none (there is a GOOD one)" */
    private static void coreNone() {
        core("g0,0;", NONE);
        core(Hotel.guests(6), NONE);
        core("g0,9;u0,9;", NONE);
        core(Hotel.guests(6) + "f0;b0,1;b0,2;b0,3;b0,4;b0,5;n0,0;u0,99;a1,0;", NONE);
        BootsAtDawn boots = Hotel.laid("g0,9;u0,8;");
        CHECK.due("one that can not be", boots.core(), 1);
        boots.strike(0, true);
        CHECK.due("struck out", boots.core(), NONE);
        boots.strike(0, false);
        boots.leave(0);
        CHECK.due("nobody", boots.core(), NONE);
    }

    /** "PLACE of a GUEST in GOOD ROUNDS: the earliest (1 ..), the latest" */
    private static void placeEarliestAndLatest() {
        BootsAtDawn free = Hotel.laid(Hotel.guests(6));
        BootsAtDawn chain = Hotel.laid(Hotel.guests(6) + "b5,4;b4,3;b3,2;b2,1;b1,0;");
        for (int g = 0; g < 6; g++) {
            CHECK.due("earliest, free", free.place(g, 0), 1);
            CHECK.due("latest, free", free.place(g, 1), 6);
            CHECK.due("earliest in a chain", chain.place(g, 0), 6 - g);
            CHECK.due("latest in a chain", chain.place(g, 1), 6 - g);
        }
        BootsAtDawn alone = Hotel.laid(Hotel.guests(2));
        alone.leave(0);
        CHECK.due("earliest alone", alone.place(1, 0), 1);
        CHECK.due("latest alone", alone.place(1, 1), 1);
        BootsAtDawn later = Hotel.laid("g1,0;g0,0;g0,0;u1,3;");
        CHECK.due("latest by not later", later.place(1, 1), 2);
        CHECK.due("earliest of another one", later.place(0, 0), 1);
        CHECK.due("latest of another one", later.place(0, 1), 3);
    }

    /** "none" (promise 16: "he has LEFT, too") */
    private static void placeNone() {
        BootsAtDawn boots = Hotel.laid(Hotel.guests(3) + "f0;f1;");
        for (int g = 0; g < 3; g++) {
            CHECK.due("earliest, none good", boots.place(g, 0), NONE);
            CHECK.due("latest, none good", boots.place(g, 1), NONE);
        }
        boots.leave(0);
        CHECK.due("earliest of one who has left", boots.place(0, 0), NONE);
        CHECK.due("latest of one who has left", boots.place(0, 1), NONE);
        CHECK.due("earliest of one here", boots.place(1, 0), 1);
        CHECK.due("latest of one here", boots.place(2, 1), 2);
        Hotel.leave(boots, 1, 2);
        CHECK.due("of nobody", boots.place(2, 0), NONE);
    }

    /** "AHEAD: whether in all GOOD ROUNDS one GUEST comes ahead of another one" */
    private static void aheadInAllGoodRounds() {
        BootsAtDawn boots = Hotel.laid(Hotel.guests(6) + "b5,0;");
        CHECK.due("in all", boots.ahead(5, 0), 1);
        CHECK.due("in none", boots.ahead(0, 5), 0);
        CHECK.due("in some", boots.ahead(1, 0), 0);
        CHECK.due("in the others", boots.ahead(0, 1), 0);
        boots = Hotel.laid(Hotel.guests(6) + "f5;");
        for (int g = 0; g < 5; g++) {
            CHECK.due("the first one ahead", boots.ahead(5, g), 1);
            CHECK.due("ahead of the first one", boots.ahead(g, 5), 0);
        }
        boots = Hotel.laid(Hotel.guests(4) + "b0,1;a2,1;b2,3;");
        CHECK.due("through others", boots.ahead(0, 3), 1);
        CHECK.due("in all but one", Hotel.laid("g0,0;g0,0;g0,0;b0,1;").ahead(0, 2), 0);
    }

    /** "none (there is no GOOD one)" (promise 17: "one has LEFT, too") */
    private static void aheadNone() {
        BootsAtDawn boots = Hotel.laid(Hotel.guests(3) + "f0;f1;b0,2;");
        CHECK.due("no good one", boots.ahead(0, 2), NONE);
        CHECK.due("no good one, the other way", boots.ahead(2, 0), NONE);
        boots.strike(1, true);
        CHECK.due("a good one", boots.ahead(0, 2), 1);
        boots.leave(2);
        CHECK.due("the second has left", boots.ahead(0, 2), NONE);
        CHECK.due("the first has left", boots.ahead(2, 0), NONE);
        boots.leave(0);
        CHECK.due("both have left", boots.ahead(0, 2), NONE);
        Hotel.leave(boots, 0, 2);
        CHECK.due("both are here again", boots.ahead(0, 2), 1);
    }

    /** "HANGS: the others (bits) that come behind one": B of before, A of just after, never he himself */
    private static void hangsOnTheOthers() {
        BootsAtDawn boots = Hotel.laid(Hotel.guests(3) + "b0,1;a2,0;");
        CHECK.due("B of before, A of just after", boots.hangs(0), 6);
        CHECK.due("not A of before", boots.hangs(1), 0);
        CHECK.due("not B of just after", boots.hangs(2), 0);
        boots = Hotel.laid(Hotel.guests(2) + "b0,1;b1,0;");
        CHECK.due("not himself in a ring", boots.hangs(0), 2);
        CHECK.due("nor the other one", boots.hangs(1), 1);
        boots = Hotel.laid(Hotel.guests(6) + "b5,0;b5,1;b5,2;b5,3;b5,4;");
        CHECK.due("five others", boots.hangs(5), 31);
        CHECK.due("none of the last", boots.hangs(4), 0);
        CHECK.due("nobody else", Hotel.laid("g0,0;f0;n0,0;u0,0;").hangs(0), 0);
    }

    /** "who comes behind these, too, and so on" */
    private static void hangsThroughOthers() {
        BootsAtDawn up = Hotel.laid(Hotel.guests(6) + "b0,1;b1,2;b2,3;b3,4;b4,5;");
        BootsAtDawn down = Hotel.laid(Hotel.guests(6) + "b1,0;b2,1;b3,2;b4,3;b5,4;");
        BootsAtDawn ring = Hotel.laid(Hotel.guests(6) + "a0,5;a1,0;a2,1;a3,2;a4,3;a5,4;");
        for (int g = 0; g < 6; g++) {
            CHECK.due("a chain up", up.hangs(g), 63 - (1 << g + 1) + 1);
            CHECK.due("a chain down", down.hangs(g), (1 << g) - 1);
            CHECK.due("a ring", ring.hangs(g), 63 - (1 << g));
        }
        CHECK.due("no good one in a ring", ring.good(0), 0);
    }

    /** "by WISHES that stand" */
    private static void hangsByWishesThatStand() {
        BootsAtDawn boots = Hotel.laid(Hotel.guests(3) + "b0,1;b1,2;");
        boots.strike(1, true);
        CHECK.due("the second link struck out", boots.hangs(0), 2);
        boots.strike(1, false);
        boots.strike(0, true);
        CHECK.due("the first link struck out", boots.hangs(0), 0);
        CHECK.due("the second link stands", boots.hangs(1), 4);
        boots.strike(0, false);
        boots.leave(1);
        CHECK.due("one between has left", boots.hangs(0), 0);
        CHECK.due("one who has left", boots.hangs(1), NO);
        boots.leave(1);
        boots.leave(2);
        CHECK.due("the last has left", boots.hangs(0), 2);
        boots.leave(2);
        CHECK.due("all here again", boots.hangs(0), 6);
    }

    /** "B of before behind A, A of just after behind B": first, not sooner and not later hang nobody on anybody */
    private static void hangsOnNobodyElse() {
        BootsAtDawn boots = Hotel.laid(Hotel.guests(3) + "f0;n0,1;n0,2;u0,1;u0,2;n1,0;u1,0;");
        for (int g = 0; g < 3; g++) {
            CHECK.due("hangs(" + g + ")", boots.hangs(g), 0);
        }
    }
}
