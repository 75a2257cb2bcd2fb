import java.util.Random;

/** Long random runs, each answer beside the model's; the seeds are fixed, so each run is the same. */
final class ModelTest {
    private static final int RUNS = 240;
    private static final int CALLS = 200;
    // of more than 512 calls nothing is promised, and a text takes at most 93 of them
    private static final int LAST_CALL = 512 - 93;
    private static final Check CHECK = new Check("ModelTest");

    private final Random random;
    private final BootsAtDawn boots = new BootsAtDawn();
    private final Model model = new Model();
    private final StringBuilder told = new StringBuilder();
    private int called;

    private ModelTest(int seed) {
        random = new Random(seed);
    }

    public static void main(String[] args) {
        for (int seed = 0; seed < RUNS; seed++) {
            ModelTest run = new ModelTest(seed);
            if (seed % 8 != 0) {
                run.layAText();
            }
            for (int call = 0; call < CALLS && run.called < LAST_CALL; call++) {
                run.callOne();
            }
        }
        CHECK.end();
    }

    private int upTo(int bound) {
        return random.nextInt(bound + 1);
    }

    /** Mostly 0 to the bound, at times a number beyond one of the two ends. */
    private int about(int bound) {
        if (random.nextInt(25) == 0) {
            int[] wild = {-1, bound + 1, Integer.MIN_VALUE, Integer.MAX_VALUE, -4, 99};
            return wild[random.nextInt(wild.length)];
        }
        return upTo(bound);
    }

    private void due(String call, int got, int want) {
        called++;
        told.append(call).append(' ');
        CHECK.due(told.length() > 600 && got == want ? call : told.toString(), got, want);
    }

    private void layAText() {
        due("wipe()", boots.wipe(), model.wipe());
        String text = random.nextInt(5) == 0 ? faultyText() : plainText();
        for (int i = 0; i < text.length(); i++) {
            int letter = text.charAt(i);
            CHECK.due("write(" + letter + ")", boots.write(letter), model.write(letter));
            called++;
        }
        told.append('"').append(text).append("\" ");
        due("fault()", boots.fault(), model.fault());
        due("lay()", boots.lay(), model.lay());
    }

    private String plainText() {
        StringBuilder text = new StringBuilder();
        int guests = 1 + random.nextInt(6);
        for (int g = 0; g < guests; g++) {
            text.append('g').append(upTo(3)).append(',').append(upTo(9)).append(';');
        }
        int wishes = random.nextInt(10);
        for (int w = 0; w < wishes; w++) {
            addWish(text, guests);
        }
        if (random.nextInt(2) == 0) {
            text.append('s').append(upTo(30)).append(';');
        }
        return text.toString();
    }

    private void addWish(StringBuilder text, int guests) {
        char letter = "bbbaafnnuu".charAt(random.nextInt(10));
        int a = random.nextInt(guests);
        int b = guests == 1 ? 0 : (a + 1 + random.nextInt(guests - 1)) % guests;
        text.append(letter).append(a);
        if (letter == 'b' || letter == 'a') {
            text.append(',').append(b);
        } else if (letter != 'f') {
            text.append(',').append(upTo(letter == 'n' ? 30 : 60));
        }
        text.append(';');
    }

    private String faultyText() {
        StringBuilder text = new StringBuilder(plainText());
        int changes = 1 + random.nextInt(2);
        for (int i = 0; i < changes; i++) {
            int at = random.nextInt(text.length());
            char letter = "gbafnus;,0123456789 ~".charAt(random.nextInt(21));
            if (random.nextBoolean()) {
                text.setCharAt(at, letter);
            } else {
                text.insert(at, letter);
            }
        }
        return text.toString();
    }

    private void callOne() {
        int kind = random.nextInt(100);
        if (kind == 0) {
            layAText();
        } else if (kind < 20) {
            change();
        } else if (kind < 30) {
            tellMornings();
        } else if (kind < 65) {
            askRounds();
        } else {
            askOthers();
        }
    }

    private void change() {
        int g = about(5);
        int f = about(9);
        int w = about(8);
        boolean out = random.nextInt(3) != 0;
        switch (random.nextInt(12)) {
            case 0: case 1: case 2:
                due("leave(" + g + ")", boots.leave(g), model.leave(g));
                break;
            case 3: case 4:
                due("move(" + g + ", " + f + ")", boots.move(g, f), model.move(g, f));
                break;
            case 5: case 6: case 7:
                due("strike(" + w + ", " + out + ")", boots.strike(w, out), model.strike(w, out));
                break;
            case 8: case 9:
                due("undo()", boots.undo(), model.undo());
                break;
            case 10:
                due("keep()", boots.keep(), model.keep());
                break;
            default:
                due("back()", boots.back(), model.back());
        }
    }

    private void tellMornings() {
        int a = about(5);
        int b = about(5);
        if (random.nextInt(8) == 0) {
            due("forget()", boots.forget(), model.forget());
        } else {
            due("woken(" + a + ", " + b + ")", boots.woken(a, b), model.woken(a, b));
        }
    }

    private void askRounds() {
        int a = about(5);
        int b = about(5);
        int k = about(6);
        int what = about(1);
        switch (random.nextInt(9)) {
            case 0:
                due("good(" + k + ")", boots.good(k), model.good(k));
                break;
            case 1:
                due("soonest(" + k + ")", boots.soonest(k), model.soonest(k));
                break;
            case 2:
                due("most(" + what + ")", boots.most(what), model.most(what));
                break;
            case 3:
                due("core()", boots.core(), model.core());
                break;
            case 4:
                due("place(" + a + ", " + what + ")", boots.place(a, what), model.place(a, what));
                break;
            case 5:
                due("ahead(" + a + ", " + b + ")", boots.ahead(a, b), model.ahead(a, b));
                break;
            case 6:
                due("hangs(" + a + ")", boots.hangs(a), model.hangs(a));
                break;
            case 7:
                due("slates(" + what + ")", boots.slates(what), model.slates(what));
                break;
            default:
                due("washed()", boots.washed(), model.washed());
        }
    }

    private void askOthers() {
        int g = about(5);
        int w = about(8);
        int what = about(1);
        int x = about(10);
        int z = about(9999);
        int n = 1 + about(6);
        int four = about(3);
        int ten = about(9);
        switch (random.nextInt(8)) {
            case 0:
                due("guest(" + g + ", " + four + ")", boots.guest(g, four), model.guest(g, four));
                break;
            case 1:
                due("wish(" + w + ", " + four + ")", boots.wish(w, four), model.wish(w, four));
                break;
            case 2:
                due("two(" + what + ")", boots.two(what), model.two(what));
                break;
            case 3:
                due("overslept(" + g + ", " + x + ", " + what + ")", boots.overslept(g, x, what), model.overslept(g, x, what));
                break;
            case 4:
                due("dawn(" + z + ", " + n + ", " + what + ")", boots.dawn(z, n, what), model.dawn(z, n, what));
                break;
            case 5:
                due("fault()", boots.fault(), model.fault());
                break;
            default:
                due("count(" + ten + ")", boots.count(ten), model.count(ten));
        }
    }
}
