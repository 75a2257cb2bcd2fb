import java.util.ArrayList;
import java.util.List;

/** What the tests share: texts written and laid, and a look at all that an object answers. */
final class Hotel {
    static final int BAD = -1, NO = -2, FULL = -3, NONE = -4;
    static final int LEAST = Integer.MIN_VALUE, MOST = Integer.MAX_VALUE;
    static final String FIRST_TEXT = "g0,1;g1,3;g0,2;g2,5;g3,3;b0,1;a2,0;b3,4;n1,12;u3,30;b1,3;s2;";

    private Hotel() {
    }

    static void put(BootsAtDawn boots, String text) {
        boots.wipe();
        for (int i = 0; i < text.length(); i++) {
            boots.write(text.charAt(i));
        }
    }

    static BootsAtDawn laid(String text) {
        BootsAtDawn boots = new BootsAtDawn();
        put(boots, text);
        if (boots.lay() < 1) {
            throw new IllegalStateException("not laid: " + text);
        }
        return boots;
    }

    static String guests(int many) {
        return "g0,0;".repeat(many);
    }

    static void leave(BootsAtDawn boots, int... those) {
        for (int g : those) {
            boots.leave(g);
        }
    }

    /** Which wishes stand, as bits. */
    static int standing(BootsAtDawn boots) {
        int bits = 0;
        int wishes = boots.count(2);
        for (int w = 0; w < wishes; w++) {
            bits |= boots.wish(w, 3) << w;
        }
        return bits;
    }

    /** Every answer that can be had without changing anything: at most 160 calls. */
    static List<Integer> look(BootsAtDawn boots) {
        List<Integer> seen = new ArrayList<>();
        int guests = boots.count(0);
        lookAtSlate(boots, guests, boots.count(2), seen);
        lookAtRounds(boots, guests, seen);
        for (int g = 0; g < guests; g++) {
            seen.add(boots.overslept(g, 3, 0));
            seen.add(boots.overslept(g, 3, 1));
        }
        for (int what = 0; what < 2; what++) {
            seen.add(boots.slates(what));
            seen.add(boots.two(what));
            seen.add(boots.dawn(4, 7, what));
        }
        seen.add(boots.washed());
        return seen;
    }

    private static void lookAtSlate(BootsAtDawn boots, int guests, int wishes, List<Integer> seen) {
        for (int what = 0; what < 10; what++) {
            seen.add(boots.count(what));
        }
        seen.add(boots.fault());
        for (int what = 0; what < 4; what++) {
            for (int g = 0; g < guests; g++) {
                seen.add(boots.guest(g, what));
            }
            for (int w = 0; w < wishes; w++) {
                seen.add(boots.wish(w, what));
            }
        }
    }

    private static void lookAtRounds(BootsAtDawn boots, int guests, List<Integer> seen) {
        for (int k = 0; k <= 6; k++) {
            seen.add(boots.good(k));
            seen.add(boots.soonest(k));
        }
        seen.add(boots.most(0));
        seen.add(boots.most(1));
        seen.add(boots.core());
        for (int a = 0; a < guests; a++) {
            seen.add(boots.place(a, 0));
            seen.add(boots.place(a, 1));
            seen.add(boots.hangs(a));
            for (int b = a + 1; b < guests; b++) {
                seen.add(boots.ahead(a, b));
                seen.add(boots.ahead(b, a));
            }
        }
    }

    /** A look, and then at what is behind: all that can be undone, all that is kept, told, written; at most 280 calls. */
    static List<Integer> lookBehind(BootsAtDawn boots) {
        List<Integer> seen = look(boots);
        int guests = boots.count(0);
        for (int undone = 0, left = 0; undone <= 8 && left >= 0; undone++) {
            left = boots.undo();
            seen.add(left);
            glance(boots, guests, seen);
        }
        for (int back = 0, left = 0; back <= 2 && left >= 0; back++) {
            left = boots.back();
            seen.add(left);
            glance(boots, guests, seen);
        }
        seen.add(boots.forget());
        seen.add(boots.lay());
        seen.add(boots.wipe());
        return seen;
    }

    private static void glance(BootsAtDawn boots, int guests, List<Integer> seen) {
        seen.add(boots.count(1));
        seen.add(boots.count(4));
        for (int g = 0; g < guests; g++) {
            seen.add(boots.guest(g, 1));
        }
    }
}
