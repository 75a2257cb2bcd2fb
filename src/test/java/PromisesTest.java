/** Each promise of the document by examples that were worked out by hand: ordinary, edges, wrong inputs. */
final class PromisesTest {
    private static final int BAD = Hotel.BAD, NO = Hotel.NO, FULL = Hotel.FULL, NONE = Hotel.NONE;
    private static final int LEAST = Hotel.LEAST, MOST = Hotel.MOST;
    private static final Check CHECK = new Check("PromisesTest");

    public static void main(String[] args) {
        promise1NewObject();
        promise2Write();
        promise3Wipe();
        promise4Fault();
        promise4FaultOfTooMany();
        promise5Lay();
        promise5LayRefused();
        promise6Guest();
        promise7Wish();
        promise8Leave();
        promise9Move();
        promise10Strike();
        promise11Undo();
        promise12Good();
        promise13Soonest();
        promise13SoonestWaits();
        promise14Most();
        promise15Core();
        promise16Place();
        promise17Ahead();
        promise18Hangs();
        promise19Woken();
        promise20Forget();
        promise21Slates();
        promise22Washed();
        promise23Two();
        promise24Overslept();
        promise25Dawn();
        promise26Keep();
        promise27Back();
        promise28Count();
        CHECK.end();
    }

    private static void due(String what, int got, int want) {
        CHECK.due(what, got, want);
    }

    private static void counts(String what, BootsAtDawn boots, int... want) {
        for (int i = 0; i < want.length; i++) {
            due(what + ": count(" + i + ")", boots.count(i), want[i]);
        }
    }

    private static void goodOrder(String what, BootsAtDawn boots, int... want) {
        for (int k = 1; k <= 6; k++) {
            due(what + ": good(" + k + ")", boots.good(k), k <= want.length ? want[k - 1] : NONE);
        }
    }

    private static void soonestOrder(String what, BootsAtDawn boots, int... want) {
        for (int k = 1; k <= 6; k++) {
            due(what + ": soonest(" + k + ")", boots.soonest(k), k <= want.length ? want[k - 1] : NONE);
        }
    }

    private static void promise1NewObject() {
        BootsAtDawn boots = new BootsAtDawn();
        counts("new", boots, 5, 5, 6, 6, 0, 2, 0, 0, 0, 0);
        int[][] guests = {{0, 1}, {1, 3}, {0, 2}, {2, 5}, {3, 3}};
        for (int g = 0; g < guests.length; g++) {
            due("new: kind of " + g, boots.guest(g, 0), guests[g][0]);
            due("new: floor of " + g, boots.guest(g, 1), guests[g][1]);
            due("new: here " + g, boots.guest(g, 2), 1);
        }
        int[][] wishes = {{0, 0, 1}, {1, 2, 0}, {0, 3, 4}, {3, 1, 12}, {4, 3, 30}, {0, 1, 3}};
        for (int w = 0; w < wishes.length; w++) {
            for (int what = 0; what < 3; what++) {
                due("new: wish(" + w + ", " + what + ")", boots.wish(w, what), wishes[w][what]);
            }
            due("new: stands " + w, boots.wish(w, 3), 1);
        }
        due("new: fault()", boots.fault(), NONE);
        due("new: lay() of nothing", boots.lay(), NO);
        due("new: wipe()", boots.wipe(), 0);
        due("new: undo()", boots.undo(), NO);
        due("new: back()", boots.back(), NO);
        goodOrder("new", boots, 0, 2, 1, 3, 4);
        BootsAtDawn other = new BootsAtDawn();
        boots.leave(0);
        due("another object is left alone", other.count(1), 5);
    }

    private static void promise2Write() {
        BootsAtDawn boots = new BootsAtDawn();
        int[] wrong = {31, 127, 0, -1, 128, 255, 65536 + 65, LEAST, MOST};
        for (int letter : wrong) {
            due("write(" + letter + ")", boots.write(letter), BAD);
        }
        due("write(32)", boots.write(32), 1);
        due("write(126)", boots.write(126), 2);
        for (int i = 3; i <= 200; i++) {
            due("write, letter " + i, boots.write('g'), i);
        }
        due("write, letter 201", boots.write('g'), FULL);
        due("write(31) to a full text", boots.write(31), BAD);
        due("letters of a full text", boots.count(9), 200);
        due("wipe of a full text", boots.wipe(), 200);
        due("write behind wipe", boots.write('g'), 1);
    }

    private static void promise3Wipe() {
        BootsAtDawn boots = new BootsAtDawn();
        Hotel.put(boots, "g0,1;x");
        due("fault ahead of wipe", boots.fault(), 5);
        due("wipe", boots.wipe(), 6);
        due("wipe again", boots.wipe(), 0);
        due("fault behind wipe", boots.fault(), NONE);
        due("letters behind wipe", boots.count(9), 0);
        due("guests behind wipe", boots.count(0), 5);
    }

    private static void fault(String text, int want) {
        BootsAtDawn boots = new BootsAtDawn();
        Hotel.put(boots, text);
        due("fault of " + text, boots.fault(), want);
        due("letters behind fault of " + text, boots.count(9), text.length());
        due("guests behind fault of " + text, boots.count(0), 5);
    }

    private static void promise4Fault() {
        String[] fine = {
            "", "g0,0;", "g3,9;", "g00,09;", "s0;", "s99;", "s00;s1;", "g0,0;g0,0;b0,1;", "g0,0;g0,0;b1,0;", "g0,0;g0,0;a01,00;",
            "g0,0;f0;", "g0,0;n0,0;", "g0,0;n0,99;", "g0,0;u0,0;", "g0,0;u0,99;", "g0,0;s5;g1,1;u1,7;s6;"
        };
        for (String text : fine) {
            fault(text, NONE);
        }
        String[] firstItem = {
            "g4,0;", "g0,10;", "g0,0", "g0,0,", "g0,", "g0", "g", "g0;", "g0,0,0;", "g000,0;", "g0,000;", "g,0;", "g0,;", "g;", "G0,0;",
            ";", ",", " ", "0", "x", "x0,0;", " g0,0;", "g 0,0;", "g0 ,0;", "g0,0 ;", "g-1,0;", "g0.0;", "b0,1;g0,0;g0,0;", "f0;", "n0,0;",
            "u0,0;", "s100;", "s;", "s", "s1", "s-1;", "s1,2;", "a0,1;", "~", "g0,/;", "g0,:;"
        };
        for (String text : firstItem) {
            fault(text, 0);
        }
        String[] secondItem = {
            "g", "g0,0", ";", " ", "b0,1;g0,0;", "b0,0;", "a0,0;", "a1,0;", "f1;", "f0,0;", "f;", "f0", "f00", "f000;", "n0,100;", "n1,0;",
            "n0;", "n0,;", "u1,0;", "u0,100;", "u0;", "u0,", "c0,0;", "x;y;", "s5", "s5,;", "g9,9;"
        };
        for (String text : secondItem) {
            fault("g0,0;" + text, 5);
        }
        fault("g0,0;s5;b0,1;", 8);
        fault("g0,0;g0,0;b0,2;", 10);
        fault("g0,0;g0,0;b2,0;", 10);
        fault("g0,0;g0,0;b0,1;a0,1,1;", 15);
    }

    private static void promise4FaultOfTooMany() {
        String six = "g0,0;g0,0;g0,0;g0,0;g0,0;g0,0;";
        fault(six, NONE);
        fault(six + "g0,0;", 30);
        fault(six + "s1;g0,0;", 33);
        String nine = "g0,0;f0;f0;f0;f0;f0;f0;f0;f0;f0;";
        fault(nine, NONE);
        fault(nine + "f0;", 32);
        fault(nine + "n0,1;", 32);
        fault(nine + "s1;g0,0;", NONE);
        StringBuilder full = new StringBuilder("g0,0;");
        while (full.length() < 200) {
            full.append("s1;");
        }
        fault(full.toString(), NONE);
        BootsAtDawn boots = new BootsAtDawn();
        Hotel.put(boots, full.toString().substring(0, 198) + "s1");
        due("fault of an item cut off by the end", boots.fault(), 197);
    }

    private static void promise5Lay() {
        BootsAtDawn boots = new BootsAtDawn();
        Hotel.put(boots, "s3;g1,4;g2,5;b0,1;s7;");
        due("lay", boots.lay(), 2);
        counts("laid", boots, 2, 2, 1, 1, 0, 7, 0, 0, 0, 21);
        boots.leave(0);
        boots.move(1, 9);
        boots.strike(0, true);
        boots.woken(0, 1);
        boots.keep();
        due("lay again", boots.lay(), 2);
        counts("laid again", boots, 2, 2, 1, 1, 0, 7, 0, 0, 0, 21);
        due("floor laid again", boots.guest(1, 1), 5);
        due("undo behind lay", boots.undo(), NO);
        due("back behind lay", boots.back(), NO);
        due("washed behind lay", boots.washed(), 2);
        due("good ahead of another lay", boots.good(0), 1);
        Hotel.put(boots, "g3,9;");
        due("what is laid while another text is written", boots.count(0), 2);
        due("lay of another text", boots.lay(), 1);
        counts("laid another text", boots, 1, 1, 0, 0, 0, 0, 0, 0, 0, 5);
        due("wish of a slate of none", boots.wish(0, 0), BAD);
        due("good of another text", boots.good(0), 1);
        due("soonest of another text", boots.soonest(0), 20);
    }

    private static void promise5LayRefused() {
        BootsAtDawn boots = new BootsAtDawn();
        boots.leave(0);
        boots.woken(1, 2);
        boots.keep();
        String[] refused = {"", "s5;", "g0,0;g1,1;x", "g0,0;b0,0;", "g0,0"};
        for (String text : refused) {
            Hotel.put(boots, text);
            due("lay of " + text, boots.lay(), NO);
            counts("as before lay of " + text, boots, 5, 4, 6, 4, 0, 2, 1, 1, 1, text.length());
            due("floor as before lay of " + text, boots.guest(3, 1), 5);
            due("wish as before lay of " + text, boots.wish(4, 2), 30);
        }
    }

    private static void promise6Guest() {
        BootsAtDawn boots = Hotel.laid("g0,9;g1,9;g2,9;g3,9;g3,0;");
        int[] kinds = {0, 1, 2, 3, 3};
        int[] wakings = {1, 3, 0, 11, 2};
        for (int g = 0; g < 5; g++) {
            due("kind of " + g, boots.guest(g, 0), kinds[g]);
            due("floor of " + g, boots.guest(g, 1), g == 4 ? 0 : 9);
            due("here " + g, boots.guest(g, 2), 1);
            due("waking of " + g, boots.guest(g, 3), wakings[g]);
        }
        boots.move(4, 6);
        boots.leave(4);
        due("floor of one who moved", boots.guest(4, 1), 6);
        due("here of one who left", boots.guest(4, 2), 0);
        due("waking of one who moved and left", boots.guest(4, 3), 8);
        int[][] wrong = {{-1, 0}, {5, 0}, {0, -1}, {0, 4}, {LEAST, 0}, {MOST, 0}, {0, LEAST}, {0, MOST}};
        for (int[] call : wrong) {
            due("guest(" + call[0] + ", " + call[1] + ")", boots.guest(call[0], call[1]), BAD);
        }
    }

    private static void promise7Wish() {
        BootsAtDawn boots = Hotel.laid("g0,0;g0,1;g0,2;b2,1;a1,0;f2;n0,99;u1,0;");
        int[][] want = {{0, 2, 1, 1}, {1, 1, 0, 1}, {2, 2, NONE, 1}, {3, 0, 99, 1}, {4, 1, 0, 1}};
        for (int w = 0; w < want.length; w++) {
            for (int what = 0; what < 4; what++) {
                due("wish(" + w + ", " + what + ")", boots.wish(w, what), want[w][what]);
            }
        }
        boots.leave(0);
        due("stands, A and B here", boots.wish(0, 3), 1);
        due("stands, B left", boots.wish(1, 3), 0);
        due("stands, A left", boots.wish(3, 3), 0);
        boots.strike(0, true);
        due("stands, struck out", boots.wish(0, 3), 0);
        due("A of one struck out", boots.wish(0, 1), 2);
        boots.strike(0, false);
        boots.leave(0);
        due("stands, written again", boots.wish(0, 3), 1);
        due("stands, B here again", boots.wish(1, 3), 1);
        boots.leave(1);
        boots.strike(1, true);
        boots.leave(1);
        due("stands, struck out while A had left", boots.wish(1, 3), 0);
        int[][] wrong = {{-1, 0}, {5, 0}, {0, -1}, {0, 4}, {LEAST, 3}, {MOST, 3}, {2, LEAST}, {2, MOST}};
        for (int[] call : wrong) {
            due("wish(" + call[0] + ", " + call[1] + ")", boots.wish(call[0], call[1]), BAD);
        }
    }

    private static void promise8Leave() {
        BootsAtDawn boots = Hotel.laid("g0,0;g0,1;");
        due("leave", boots.leave(1), 0);
        due("here", boots.count(1), 1);
        due("guests", boots.count(0), 2);
        goodOrder("one left", boots, 0);
        due("comes again", boots.leave(1), 1);
        goodOrder("all again", boots, 0, 1);
        int[] wrong = {-1, 2, LEAST, MOST};
        for (int g : wrong) {
            due("leave(" + g + ")", boots.leave(g), BAD);
        }
        due("changes to undo", boots.count(7), 2);
    }

    private static void promise9Move() {
        BootsAtDawn boots = Hotel.laid("g0,4;g0,1;");
        due("move", boots.move(0, 9), 4);
        due("move back", boots.move(0, 0), 9);
        due("move to where he is", boots.move(0, 0), NO);
        due("floor", boots.guest(0, 1), 0);
        boots.leave(1);
        due("one who left moves", boots.move(1, 5), 1);
        due("floor of one who left", boots.guest(1, 1), 5);
        int[][] wrong = {{-1, 3}, {2, 3}, {0, -1}, {0, 10}, {LEAST, 0}, {MOST, 0}, {0, LEAST}, {0, MOST}, {2, 10}};
        for (int[] call : wrong) {
            due("move(" + call[0] + ", " + call[1] + ")", boots.move(call[0], call[1]), BAD);
        }
        due("changes to undo", boots.count(7), 4);
        due("soonest behind moves", boots.soonest(0), 1);
    }

    private static void promise10Strike() {
        BootsAtDawn boots = Hotel.laid("g0,0;g0,1;b0,1;b1,0;f0;");
        due("written already", boots.strike(0, false), NO);
        due("strike", boots.strike(0, true), 1);
        due("struck out already", boots.strike(0, true), NO);
        due("strike another", boots.strike(2, true), 2);
        due("stand", boots.count(3), 1);
        due("write again", boots.strike(0, false), 1);
        due("struck out", boots.count(4), 1);
        boots.leave(1);
        due("struck out, B left", boots.count(4), 1);
        due("stand, B left", boots.count(3), 0);
        due("strike, B left", boots.strike(0, true), 2);
        due("written already, A left", boots.strike(1, false), NO);
        due("strike(-1)", boots.strike(-1, true), BAD);
        due("strike(3)", boots.strike(3, true), BAD);
        due("strike(least)", boots.strike(LEAST, false), BAD);
        due("strike(most)", boots.strike(MOST, false), BAD);
        due("changes to undo", boots.count(7), 5);
    }

    private static void promise11Undo() {
        BootsAtDawn boots = Hotel.laid("g0,4;g0,1;b0,1;");
        boots.leave(0);
        boots.move(1, 7);
        boots.strike(0, true);
        boots.strike(0, true);
        boots.move(1, 7);
        boots.leave(9);
        boots.woken(0, 1);
        due("undo a strike", boots.undo(), 2);
        due("struck out", boots.count(4), 0);
        due("undo a move", boots.undo(), 1);
        due("floor", boots.guest(1, 1), 1);
        due("undo a leave", boots.undo(), 0);
        due("here", boots.count(1), 2);
        due("woken is not undone", boots.count(6), 1);
        due("undo of nothing", boots.undo(), NO);
        for (int floor = 0; floor < 4; floor++) {
            boots.move(0, floor);
        }
        for (int floor = 5; floor < 10; floor++) {
            boots.move(0, floor);
        }
        due("the last 8", boots.count(7), 8);
        for (int left = 7; left >= 0; left--) {
            due("undo of the last 8", boots.undo(), left);
        }
        due("the 9th last stays", boots.guest(0, 1), 0);
        due("undo of the 9th last", boots.undo(), NO);
        boots.leave(1);
        goodOrder("one left, ahead of undo", boots, 0);
        due("undo a leave again", boots.undo(), 0);
        goodOrder("as undone", boots, 0, 1);
    }

    private static void promise12Good() {
        BootsAtDawn boots = Hotel.laid("g0,1;g0,2;g0,3;");
        due("good of no wishes", boots.good(0), 6);
        goodOrder("no wishes", boots, 0, 1, 2);
        boots = Hotel.laid("g0,0;g0,0;g0,0;a2,0;");
        due("good of just after", boots.good(0), 2);
        goodOrder("just after", boots, 0, 2, 1);
        boots = Hotel.laid("g0,0;g0,0;g0,0;f2;");
        due("good of first", boots.good(0), 2);
        goodOrder("first", boots, 2, 0, 1);
        boots = Hotel.laid("g0,0;g0,0;g0,0;g0,0;g0,0;g0,0;b5,0;");
        due("good of before", boots.good(0), 360);
        goodOrder("before", boots, 1, 2, 3, 4, 5, 0);
        boots = Hotel.laid("g0,1;g0,2;u0,1;");
        due("good of not later", boots.good(0), 1);
        boots.move(0, 2);
        due("good of not later, on a higher floor", boots.good(0), 0);
        goodOrder("no good one", boots);
        boots.strike(0, true);
        due("good of a wish struck out", boots.good(0), 2);
        boots = Hotel.laid("g0,1;g0,2;n0,99;n1,99;u1,99;s99;");
        due("good of not sooner", boots.good(0), 0);
        boots.leave(0);
        boots.move(1, 0);
        due("good of one alone in time", boots.good(0), 1);
        boots.leave(1);
        due("good of nobody", boots.good(0), 1);
        goodOrder("nobody", boots);
        int[] wrong = {-1, 7, LEAST, MOST};
        for (int k : wrong) {
            due("good(" + k + ")", boots.good(k), BAD);
        }
    }

    private static void promise13Soonest() {
        BootsAtDawn boots = Hotel.laid("g0,3;g0,1;");
        due("soonest", boots.soonest(0), 5);
        soonestOrder("from below", boots, 1, 0);
        goodOrder("from below", boots, 0, 1);
        boots = Hotel.laid("g0,1;g0,1;s10;");
        due("soonest of several", boots.soonest(0), 13);
        soonestOrder("the first of several", boots, 0, 1);
        boots = Hotel.laid("g3,4;g1,1;g2,9;");
        due("soonest by kinds", boots.soonest(0), 9 + 6 + 3);
        soonestOrder("by kinds", boots, 1, 0, 2);
        boots.leave(0);
        boots.leave(1);
        boots.leave(2);
        due("soonest of nobody", boots.soonest(0), 0);
        soonestOrder("nobody", boots);
        boots = Hotel.laid("g0,1;g0,2;b0,1;b1,0;s5;");
        due("soonest of no good one", boots.soonest(0), NONE);
        soonestOrder("no good one", boots);
        boots.leave(0);
        due("soonest of one", boots.soonest(0), 8);
        boots.leave(1);
        due("soonest of nobody at S", boots.soonest(0), 5);
        int[] wrong = {-1, 7, LEAST, MOST};
        for (int k : wrong) {
            due("soonest(" + k + ")", boots.soonest(k), BAD);
        }
    }

    private static void promise13SoonestWaits() {
        BootsAtDawn boots = Hotel.laid("g0,1;g0,2;n0,10;");
        due("soonest with a wait", boots.soonest(0), 11);
        soonestOrder("with a wait", boots, 1, 0);
        boots = Hotel.laid("g0,0;n0,5;n0,9;");
        due("the later of two waits", boots.soonest(0), 10);
        boots.strike(1, true);
        due("the wait that stands", boots.soonest(0), 6);
        boots = Hotel.laid("g0,0;n0,5;s7;");
        due("no wait when it is later", boots.soonest(0), 8);
        boots = Hotel.laid("g0,2;n0,30;u0,30;");
        due("in time behind a wait", boots.soonest(0), 31);
    }

    private static void promise14Most() {
        BootsAtDawn boots = Hotel.laid("g0,0;g0,0;b0,1;b1,0;b0,1;");
        due("most", boots.most(0), 2);
        due("which", boots.most(1), 5);
        boots.strike(2, true);
        due("most of two", boots.most(0), 1);
        due("the lowest of two", boots.most(1), 1);
        boots = Hotel.laid("g0,0;g0,0;b1,0;b0,1;");
        due("the lowest, not the first round's", boots.most(1), 1);
        boots.leave(0);
        due("most when none stands", boots.most(0), 0);
        due("which when none stands", boots.most(1), 0);
        boots = Hotel.laid("g0,0;n0,9;u0,5;f0;");
        due("most with a wait", boots.most(0), 2);
        due("which with a wait", boots.most(1), 5);
        boots.leave(0);
        due("most of nobody", boots.most(0), 0);
        int[] wrong = {-1, 2, LEAST, MOST};
        for (int what : wrong) {
            due("most(" + what + ")", boots.most(what), BAD);
        }
    }

    private static void promise15Core() {
        BootsAtDawn boots = Hotel.laid("g0,0;g0,0;g0,0;b0,1;b1,2;b2,0;b1,0;");
        due("the fewest, not the lowest", boots.core(), 9);
        boots.strike(3, true);
        due("a ring of three", boots.core(), 7);
        boots.leave(2);
        due("a good one", boots.core(), NONE);
        boots = Hotel.laid("g0,0;g0,0;f1;b0,1;f0;b0,1;");
        due("the lowest of several", boots.core(), 3);
        boots = Hotel.laid("g0,0;n0,9;u0,5;");
        due("a wait that stands counts, though it is none of these", boots.core(), 2);
        boots.strike(0, true);
        due("no wait", boots.core(), NONE);
        boots.leave(0);
        due("core of nobody", boots.core(), NONE);
        boots = Hotel.laid("g0,0;g0,0;g0,0;f0;f0;f0;f0;f0;f0;f0;a2,1;a0,2;");
        due("the highest wishes", boots.core(), 257);
    }

    private static void promise16Place() {
        BootsAtDawn boots = Hotel.laid("g0,0;g0,0;g0,0;a2,0;");
        int[][] want = {{1, 2}, {1, 3}, {2, 3}};
        for (int g = 0; g < 3; g++) {
            due("earliest of " + g, boots.place(g, 0), want[g][0]);
            due("latest of " + g, boots.place(g, 1), want[g][1]);
        }
        boots.leave(2);
        due("place of one who left", boots.place(2, 0), NONE);
        due("latest when one left", boots.place(0, 1), 2);
        boots = Hotel.laid("g0,0;g0,0;f0;f1;");
        due("place when no round is good", boots.place(0, 0), NONE);
        int[][] wrong = {{-1, 0}, {2, 0}, {0, -1}, {0, 2}, {LEAST, 0}, {MOST, 0}, {0, LEAST}, {0, MOST}};
        for (int[] call : wrong) {
            due("place(" + call[0] + ", " + call[1] + ")", boots.place(call[0], call[1]), BAD);
        }
        boots.leave(0);
        due("BAD ahead of NONE", boots.place(0, 2), BAD);
    }

    private static void promise17Ahead() {
        BootsAtDawn boots = Hotel.laid("g0,0;g0,0;g0,0;b0,1;b1,2;");
        due("ahead", boots.ahead(0, 2), 1);
        due("behind", boots.ahead(2, 0), 0);
        boots.strike(1, true);
        due("sometimes ahead", boots.ahead(0, 2), 0);
        due("sometimes behind", boots.ahead(2, 0), 0);
        boots.leave(1);
        due("ahead of one who left", boots.ahead(0, 1), NONE);
        due("one who left ahead", boots.ahead(1, 0), NONE);
        boots = Hotel.laid("g0,0;g0,0;g0,0;f0;f1;");
        due("ahead when no round is good", boots.ahead(0, 2), NONE);
        int[][] wrong = {{0, 0}, {2, 2}, {-1, 0}, {3, 0}, {0, -1}, {0, 3}, {LEAST, 0}, {0, MOST}};
        for (int[] call : wrong) {
            due("ahead(" + call[0] + ", " + call[1] + ")", boots.ahead(call[0], call[1]), BAD);
        }
        boots.leave(0);
        due("BAD ahead of NONE", boots.ahead(0, 0), BAD);
    }

    private static void promise18Hangs() {
        BootsAtDawn boots = Hotel.laid("g0,0;g0,0;g0,0;g0,0;g0,0;g0,0;b0,1;a2,1;b2,3;a4,3;b4,5;");
        int[] chain = {62, 60, 56, 48, 32, 0};
        for (int g = 0; g < 6; g++) {
            due("a chain: hangs(" + g + ")", boots.hangs(g), chain[g]);
        }
        boots.leave(2);
        due("a chain cut", boots.hangs(0), 2);
        due("behind the cut", boots.hangs(3), 48);
        due("hangs of one who left", boots.hangs(2), NO);
        boots.leave(2);
        boots.strike(1, true);
        due("a wish struck out", boots.hangs(0), 2);
        boots = Hotel.laid("g0,0;g0,0;g0,0;b0,1;b1,2;b2,0;");
        due("a ring: the others", boots.hangs(1), 5);
        boots = Hotel.laid("g0,0;g0,0;g0,0;f0;n1,3;u2,5;");
        due("first, not sooner, not later", boots.hangs(0) + boots.hangs(1) + boots.hangs(2), 0);
        int[] wrong = {-1, 3, LEAST, MOST};
        for (int g : wrong) {
            due("hangs(" + g + ")", boots.hangs(g), BAD);
        }
    }

    private static void promise19Woken() {
        BootsAtDawn boots = Hotel.laid("g0,0;g0,0;g0,0;");
        due("woken", boots.woken(0, 1), 1);
        due("woken alike again", boots.woken(0, 1), 2);
        boots.leave(2);
        due("woken of one who left", boots.woken(2, 1), 3);
        due("woken of one who left as B", boots.woken(0, 2), 4);
        due("how many count", boots.count(6), 4);
        boots.woken(0, 1);
        due("the 6th", boots.woken(1, 0), 6);
        due("the 7th", boots.woken(1, 2), FULL);
        int[][] wrong = {{0, 0}, {-1, 0}, {3, 0}, {0, -1}, {0, 3}, {LEAST, 0}, {0, MOST}};
        for (int[] call : wrong) {
            due("woken(" + call[0] + ", " + call[1] + "), ahead of FULL", boots.woken(call[0], call[1]), BAD);
        }
        due("nothing more", boots.count(6), 6);
        due("no change to undo", boots.count(7), 1);
    }

    private static void promise20Forget() {
        BootsAtDawn boots = Hotel.laid("g0,0;g0,0;");
        due("forget nothing", boots.forget(), 0);
        boots.woken(0, 1);
        boots.woken(1, 0);
        due("washed ahead of forget", boots.washed(), 0);
        boots.leave(0);
        due("washed, with one who left", boots.washed(), 1);
        due("forget, with one who left", boots.forget(), 2);
        due("forget again", boots.forget(), 0);
        boots.leave(0);
        boots.woken(0, 1);
        due("washed ahead of forget again", boots.washed(), 1);
        due("forget one", boots.forget(), 1);
        due("washed when all is forgotten", boots.washed(), 2);
        due("woken behind forget", boots.woken(1, 0), 1);
        due("washed of what was told behind forget", boots.washed(), 1);
    }

    private static void promise21Slates() {
        BootsAtDawn boots = Hotel.laid("g0,0;g0,0;g0,0;");
        due("all twos", boots.slates(0), 6);
        due("the first two", boots.slates(1), 1);
        boots.woken(1, 0);
        due("twos, one woken", boots.slates(0), 5);
        due("first, one woken", boots.slates(1), 2);
        boots.woken(2, 0);
        due("twos, two woken", boots.slates(0), 4);
        due("first, two woken", boots.slates(1), 10);
        boots.leave(1);
        due("twos, one left", boots.slates(0), 1);
        due("first, one left", boots.slates(1), 20);
        boots.leave(1);
        due("comes again, and counts again", boots.slates(0), 4);
        boots = Hotel.laid("g0,0;g0,0;g0,0;b0,1;");
        due("twos by the slate", boots.slates(0), 5);
        boots.woken(1, 0);
        due("twos against the slate", boots.slates(0), 0);
        due("first against the slate", boots.slates(1), NONE);
        boots.leave(0);
        boots.leave(1);
        due("twos of one alone", boots.slates(0), 0);
        due("first of one alone", boots.slates(1), NONE);
        int[] wrong = {-1, 2, LEAST, MOST};
        for (int what : wrong) {
            due("slates(" + what + ")", boots.slates(what), BAD);
        }
    }

    private static void promise22Washed() {
        BootsAtDawn boots = Hotel.laid("g0,0;g0,0;g0,0;g0,0;b0,1;f0;f1;");
        due("all rounds, good or not", boots.washed(), 24);
        boots.woken(1, 0);
        due("one told", boots.washed(), 12);
        boots.woken(0, 2);
        due("two told", boots.washed(), 4);
        boots.leave(0);
        due("of those here", boots.washed(), 6);
        boots.leave(0);
        boots.woken(2, 1);
        due("a ring", boots.washed(), 0);
        for (int g = 0; g < 4; g++) {
            boots.leave(g);
        }
        due("nobody", boots.washed(), 1);
    }

    private static void promise23Two() {
        BootsAtDawn boots = Hotel.laid("g0,1;g0,9;s3;b1,0;");
        due("when", boots.two(0), 13);
        due("which, the lowest", boots.two(1), 1);
        boots.leave(1);
        due("one alone", boots.two(0), 5);
        due("one alone, with the second boots", boots.two(1), 0);
        boots.leave(0);
        due("nobody", boots.two(0), 3);
        due("nobody, which", boots.two(1), 0);
        boots = Hotel.laid("g1,2;g3,2;g1,2;g2,7;n0,50;");
        due("by waking and floor", boots.two(0), 10);
        due("by waking and floor, which", boots.two(1), 3);
        boots.leave(2);
        due("one less", boots.two(0), 9);
        due("one less, which", boots.two(1), 3);
        boots.leave(2);
        boots.leave(3);
        due("by waking", boots.two(0), 8);
        due("by waking, which", boots.two(1), 2);
        int[] wrong = {-1, 2, LEAST, MOST};
        for (int what : wrong) {
            due("two(" + what + ")", boots.two(what), BAD);
        }
    }

    private static void chance(String what, BootsAtDawn boots, int g, int x, int above, int below) {
        due(what + ": overslept(" + g + ", " + x + ", 0)", boots.overslept(g, x, 0), above);
        due(what + ": overslept(" + g + ", " + x + ", 1)", boots.overslept(g, x, 1), below);
    }

    private static void promise24Overslept() {
        BootsAtDawn boots = Hotel.laid("g0,0;g0,0;g0,0;g0,0;g0,0;g0,0;b0,1;b1,2;b2,3;b3,4;a5,4;");
        chance("hangs on nobody", boots, 0, 1, 9, 10);
        chance("hangs on five", boots, 5, 1, 531441, 1000000);
        chance("lowest terms", boots, 1, 2, 16, 25);
        chance("lowest terms", boots, 2, 5, 1, 8);
        chance("lowest terms", boots, 2, 4, 27, 125);
        chance("never", boots, 5, 0, 1, 1);
        chance("always", boots, 5, 10, 0, 1);
        boots.leave(2);
        chance("a chain cut", boots, 5, 3, 343, 1000);
        chance("a chain cut", boots, 1, 3, 49, 100);
        due("one who left", boots.overslept(2, 3, 0), NO);
        chance("a ring", Hotel.laid("g0,0;g0,0;g0,0;b0,1;b1,2;b2,0;"), 1, 8, 1, 125);
        int[][] wrong = {{-1, 0, 0}, {6, 0, 0}, {0, -1, 0}, {0, 11, 0}, {0, 0, -1}, {0, 0, 2}, {2, 11, 0}, {2, 3, 2}, {LEAST, 0, 0}, {0, MOST, 0}};
        for (int[] call : wrong) {
            String told = "overslept(" + call[0] + ", " + call[1] + ", " + call[2] + ")";
            due(told, boots.overslept(call[0], call[1], call[2]), BAD);
        }
    }

    private static void promise25Dawn() {
        // by z = 0: x is 1, DRAW 0 on the first dawn; x is 6152, DRAW 5185 on the second
        BootsAtDawn boots = new BootsAtDawn();
        due("40 dawns of the first slate", boots.dawn(5, 40, 0), 40);
        due("40 dawns of the first slate: when", boots.dawn(5, 40, 1), 716);
        boots = Hotel.laid("g0,1;g0,4;");
        due("the first without guest 0", boots.dawn(0, 1, 1), 5);
        due("the second without guest 1", boots.dawn(0, 2, 1), 7);
        due("both are good", boots.dawn(0, 2, 0), 2);
        // by z = 1: x is 7920, DRAW 2850
        due("by another z", boots.dawn(1, 1, 1), 5);
        boots.leave(0);
        due("one who has left is drawn", boots.dawn(0, 1, 1), 5);
        due("the other one, too, is away", boots.dawn(0, 2, 1), 5);
        due("a dawn of nobody is good", boots.dawn(0, 2, 0), 2);
        due("dawns leave all as it is", boots.count(1), 1);
        boots = Hotel.laid("g0,1;g0,4;u1,3;");
        due("good ones alone: how many", boots.dawn(0, 2, 0), 1);
        due("good ones alone: when", boots.dawn(0, 2, 1), 2);
        due("none good", boots.dawn(0, 1, 0), 0);
        due("none good: when", boots.dawn(0, 1, 1), 0);
        due("good behind dawns", boots.good(0), 0);
        due("40 dawns of the highest z", Hotel.laid("g0,0;").dawn(9999, 40, 0), 40);
        int[][] wrong = {{-1, 1, 0}, {10000, 1, 0}, {0, 0, 0}, {0, 41, 0}, {0, 1, -1}, {0, 1, 2}, {LEAST, 1, 0}, {0, MOST, 0}, {MOST, 1, 1}};
        for (int[] call : wrong) {
            due("dawn(" + call[0] + ", " + call[1] + ", " + call[2] + ")", boots.dawn(call[0], call[1], call[2]), BAD);
        }
    }

    private static void promise26Keep() {
        BootsAtDawn boots = Hotel.laid("g0,0;g0,1;b0,1;");
        boots.leave(0);
        due("keep", boots.keep(), 1);
        due("keep two", boots.keep(), 2);
        due("keep three", boots.keep(), FULL);
        due("kept", boots.count(8), 2);
        due("what can be undone stays", boots.undo(), 0);
        due("undone", boots.count(1), 2);
        boots.back();
        due("kept as it was then", boots.count(1), 1);
        due("keep when there is room again", boots.keep(), 2);
    }

    private static void promise27Back() {
        BootsAtDawn boots = Hotel.laid("g0,4;g0,1;g0,9;b0,1;f0;");
        due("back to nothing", boots.back(), NO);
        boots.strike(1, true);
        boots.move(2, 0);
        boots.keep();
        boots.leave(1);
        boots.move(0, 9);
        boots.keep();
        boots.leave(0);
        boots.strike(0, true);
        boots.strike(1, false);
        boots.woken(0, 1);
        due("back to the last", boots.back(), 1);
        counts("as kept last", boots, 3, 2, 2, 0, 1, 0, 1, 0, 1);
        due("floor as kept last", boots.guest(0, 1), 9);
        due("undo behind back", boots.undo(), NO);
        due("good behind back", boots.good(0), 2);
        boots.leave(2);
        due("good ahead of back", boots.good(0), 1);
        due("back to the first", boots.back(), 0);
        due("good behind back to the first", boots.good(0), 3);
        counts("as kept first", boots, 3, 3, 2, 1, 1, 0, 1, 0, 0);
        due("floor as kept first", boots.guest(0, 1), 4);
        due("another floor as kept first", boots.guest(2, 1), 0);
        due("undo behind back again", boots.undo(), NO);
        due("no more", boots.back(), NO);
    }

    private static void promise28Count() {
        BootsAtDawn boots = Hotel.laid("g0,4;g0,1;g0,9;b0,1;f0;n2,7;s44;");
        boots.leave(1);
        boots.strike(1, true);
        boots.woken(0, 1);
        boots.woken(2, 1);
        boots.keep();
        counts("all", boots, 3, 2, 3, 1, 1, 44, 2, 2, 1, 32);
        int[] wrong = {-1, 10, LEAST, MOST};
        for (int what : wrong) {
            due("count(" + what + ")", boots.count(what), BAD);
        }
    }
}
