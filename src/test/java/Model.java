import java.math.BigInteger;
import java.util.ArrayDeque;
import java.util.ArrayList;
import java.util.Arrays;
import java.util.Deque;
import java.util.List;
import java.util.regex.Matcher;
import java.util.regex.Pattern;

/** The document once more, as literally as the Java library allows and without regard to speed. */
final class Model {
    private static final int BAD = -1, NO = -2, FULL = -3, NONE = -4;
    private static final Pattern ITEM = Pattern.compile("([gbanu])([0-9]{1,2}),([0-9]{1,2});|([fs])([0-9]{1,2});");

    private record Told(List<int[]> guests, List<Wish> wishes, int start, int fault) { }

    private record Wish(char letter, int a, int b) {
        boolean ofTwo() {
            return letter == 'b' || letter == 'a';
        }
    }

    private record State(boolean[] here, int[] floors, boolean[] struck) {
        State copy() {
            return new State(here.clone(), floors.clone(), struck.clone());
        }
    }

    private record Walked(List<Integer> order, int[] times, int end) { }

    private final StringBuilder text = new StringBuilder();
    private Told laid;
    private State now;
    private final Deque<State> undos = new ArrayDeque<>();
    private final Deque<State> keeps = new ArrayDeque<>();
    private final List<int[]> mornings = new ArrayList<>();

    Model() {
        lay(read("g0,1;g1,3;g0,2;g2,5;g3,3;b0,1;a2,0;b3,4;n1,12;u3,30;b1,3;s2;"));
    }

    private static Told read(String text) {
        List<int[]> guests = new ArrayList<>();
        List<Wish> wishes = new ArrayList<>();
        int start = 0;
        Matcher matcher = ITEM.matcher(text);
        int at = 0;
        while (at < text.length()) {
            matcher.region(at, text.length());
            if (!matcher.lookingAt()) {
                return new Told(guests, wishes, start, at);
            }
            boolean pair = matcher.group(1) != null;
            char letter = matcher.group(pair ? 1 : 4).charAt(0);
            int first = Integer.parseInt(matcher.group(pair ? 2 : 5));
            int second = pair ? Integer.parseInt(matcher.group(3)) : NONE;
            boolean fine = true;
            if (letter == 'g') {
                fine = first <= 3 && second <= 9 && guests.size() < 6;
                guests.add(new int[] {first, second});
            } else if (letter == 's') {
                start = first;
            } else {
                Wish wish = new Wish(letter, first, second);
                fine = wishes.size() < 9 && first < guests.size();
                if (wish.ofTwo()) {
                    fine &= second < guests.size() && first != second;
                }
                wishes.add(wish);
            }
            if (!fine) {
                return new Told(guests, wishes, start, at);
            }
            at = matcher.end();
        }
        return new Told(guests, wishes, start, NONE);
    }

    int write(int letter) {
        if (letter < 32 || letter > 126) {
            return BAD;
        }
        if (text.length() == 200) {
            return FULL;
        }
        text.append((char) letter);
        return text.length();
    }

    int wipe() {
        int length = text.length();
        text.setLength(0);
        return length;
    }

    int fault() {
        return read(text.toString()).fault;
    }

    int lay() {
        Told told = read(text.toString());
        return told.fault == NONE && !told.guests.isEmpty() ? lay(told) : NO;
    }

    private int lay(Told told) {
        laid = told;
        int[] floors = told.guests.stream().mapToInt(guest -> guest[1]).toArray();
        boolean[] here = new boolean[floors.length];
        Arrays.fill(here, true);
        now = new State(here, floors, new boolean[told.wishes.size()]);
        undos.clear();
        keeps.clear();
        mornings.clear();
        return floors.length;
    }

    private boolean isGuest(int g) {
        return 0 <= g && g < laid.guests.size();
    }

    private boolean isWish(int w) {
        return 0 <= w && w < laid.wishes.size();
    }

    int guest(int g, int what) {
        if (!isGuest(g) || what < 0 || what > 3) {
            return BAD;
        }
        int[] answers = {laid.guests.get(g)[0], now.floors[g], now.here[g] ? 1 : 0, waking(now, g)};
        return answers[what];
    }

    private int waking(State state, int g) {
        int[] minutes = {1, 3, 0, 2 + state.floors[g]};
        return minutes[laid.guests.get(g)[0]];
    }

    int wish(int w, int what) {
        if (!isWish(w) || what < 0 || what > 3) {
            return BAD;
        }
        Wish wish = laid.wishes.get(w);
        int[] answers = {"bafnu".indexOf(wish.letter), wish.a, wish.b, stands(now, w) ? 1 : 0};
        return answers[what];
    }

    private boolean stands(State state, int w) {
        Wish wish = laid.wishes.get(w);
        boolean left = !state.here[wish.a] || wish.ofTwo() && !state.here[wish.b];
        return !left && !state.struck[w];
    }

    private void change() {
        undos.push(now.copy());
        if (undos.size() > 8) {
            undos.removeLast();
        }
    }

    int leave(int g) {
        if (!isGuest(g)) {
            return BAD;
        }
        change();
        now.here[g] = !now.here[g];
        return now.here[g] ? 1 : 0;
    }

    int move(int g, int f) {
        if (!isGuest(g) || f < 0 || f > 9) {
            return BAD;
        }
        int old = now.floors[g];
        if (old == f) {
            return NO;
        }
        change();
        now.floors[g] = f;
        return old;
    }

    int strike(int w, boolean out) {
        if (!isWish(w)) {
            return BAD;
        }
        if (now.struck[w] == out) {
            return NO;
        }
        change();
        now.struck[w] = out;
        return count(4);
    }

    int undo() {
        if (undos.isEmpty()) {
            return NO;
        }
        now = undos.pop();
        return undos.size();
    }

    private List<Integer> allHere(State state) {
        List<Integer> here = new ArrayList<>();
        for (int g = 0; g < state.here.length; g++) {
            if (state.here[g]) {
                here.add(g);
            }
        }
        return here;
    }

    private List<Walked> rounds(State state) {
        List<Walked> rounds = new ArrayList<>();
        addRounds(state, new ArrayList<>(), allHere(state), rounds);
        return rounds;
    }

    private void addRounds(State state, List<Integer> order, List<Integer> rest, List<Walked> rounds) {
        if (rest.isEmpty()) {
            rounds.add(walk(state, new ArrayList<>(order)));
        }
        for (Integer g : rest) {
            List<Integer> fewer = new ArrayList<>(rest);
            fewer.remove(g);
            order.add(g);
            addRounds(state, order, fewer, rounds);
            order.remove(order.size() - 1);
        }
    }

    private Walked walk(State state, List<Integer> order) {
        int[] times = new int[6];
        int clock = laid.start;
        int floor = 0;
        for (int g : order) {
            clock += Math.abs(state.floors[g] - floor);
            floor = state.floors[g];
            for (int w = 0; w < laid.wishes.size(); w++) {
                Wish wish = laid.wishes.get(w);
                if (wish.letter == 'n' && wish.a == g && stands(state, w) && clock < wish.b) {
                    clock = wish.b;
                }
            }
            times[g] = clock;
            clock += waking(state, g);
        }
        return new Walked(order, times, clock);
    }

    private boolean kept(Walked round, Wish wish) {
        int a = round.order.indexOf(wish.a);
        int b = round.order.indexOf(wish.b);
        switch (wish.letter) {
            case 'b': return a < b;
            case 'a': return b >= 0 && a - 1 == b;
            case 'f': return a == 0;
            case 'n': return round.times[wish.a] >= wish.b;
            default: return round.times[wish.a] <= wish.b;
        }
    }

    private int keptBits(State state, Walked round) {
        int bits = 0;
        for (int w = 0; w < laid.wishes.size(); w++) {
            bits += stands(state, w) && kept(round, laid.wishes.get(w)) ? 1 << w : 0;
        }
        return bits;
    }

    private int standing(State state) {
        int bits = 0;
        for (int w = 0; w < laid.wishes.size(); w++) {
            bits += stands(state, w) ? 1 << w : 0;
        }
        return bits;
    }

    private List<Walked> goodRounds(State state) {
        List<Walked> good = new ArrayList<>();
        for (Walked round : rounds(state)) {
            if (keptBits(state, round) == standing(state)) {
                good.add(round);
            }
        }
        return good;
    }

    private Walked soonestRound(State state) {
        Walked best = null;
        for (Walked round : goodRounds(state)) {
            best = best == null || round.end < best.end ? round : best;
        }
        return best;
    }

    int good(int k) {
        if (k < 0 || k > 6) {
            return BAD;
        }
        List<Walked> good = goodRounds(now);
        if (k == 0) {
            return good.size();
        }
        return good.isEmpty() || good.get(0).order.size() < k ? NONE : good.get(0).order.get(k - 1);
    }

    int soonest(int k) {
        if (k < 0 || k > 6) {
            return BAD;
        }
        Walked round = soonestRound(now);
        if (round == null) {
            return NONE;
        }
        if (k == 0) {
            return round.end;
        }
        return round.order.size() < k ? NONE : round.order.get(k - 1);
    }

    int most(int what) {
        if (what != 0 && what != 1) {
            return BAD;
        }
        int most = 0;
        for (Walked round : rounds(now)) {
            most = Math.max(most, Integer.bitCount(keptBits(now, round)));
        }
        int which = 1 << 9;
        for (Walked round : rounds(now)) {
            int bits = keptBits(now, round);
            which = Integer.bitCount(bits) == most ? Math.min(which, bits) : which;
        }
        return what == 0 ? most : which;
    }

    int core() {
        List<Integer> kept = new ArrayList<>();
        for (Walked round : rounds(now)) {
            kept.add(keptBits(now, round));
        }
        for (int size = 0; size <= 9; size++) {
            for (int set = 0; set < 512; set++) {
                if (Integer.bitCount(set) == size && (set | standing(now)) == standing(now) && !anyHasAll(kept, set)) {
                    return set;
                }
            }
        }
        return NONE;
    }

    private static boolean anyHasAll(List<Integer> kept, int set) {
        for (int bits : kept) {
            if ((bits & set) == set) {
                return true;
            }
        }
        return false;
    }

    int place(int g, int what) {
        if (!isGuest(g) || what != 0 && what != 1) {
            return BAD;
        }
        int answer = NONE;
        for (Walked round : goodRounds(now)) {
            int place = round.order.indexOf(g) + 1;
            if (place > 0) {
                boolean better = what == 0 ? place < answer : place > answer;
                answer = answer == NONE || better ? place : answer;
            }
        }
        return answer;
    }

    int ahead(int a, int b) {
        if (!isGuest(a) || !isGuest(b) || a == b) {
            return BAD;
        }
        List<Walked> good = goodRounds(now);
        if (!now.here[a] || !now.here[b] || good.isEmpty()) {
            return NONE;
        }
        for (Walked round : good) {
            if (round.order.indexOf(a) > round.order.indexOf(b)) {
                return 0;
            }
        }
        return 1;
    }

    int hangs(int g) {
        if (!isGuest(g)) {
            return BAD;
        }
        if (!now.here[g]) {
            return NO;
        }
        int bits = 0;
        for (int other = 0; other < now.here.length; other++) {
            bits += other != g && comesBehind(g, other, 0) ? 1 << other : 0;
        }
        return bits;
    }

    private boolean comesBehind(int leader, int who, int links) {
        if (links > 6) {
            return false;
        }
        for (int w = 0; w < laid.wishes.size(); w++) {
            Wish wish = laid.wishes.get(w);
            if (wish.ofTwo() && stands(now, w)) {
                int from = wish.letter == 'b' ? wish.a : wish.b;
                int to = wish.letter == 'b' ? wish.b : wish.a;
                if (from == leader && (to == who || comesBehind(to, who, links + 1))) {
                    return true;
                }
            }
        }
        return false;
    }

    int woken(int a, int b) {
        if (!isGuest(a) || !isGuest(b) || a == b) {
            return BAD;
        }
        if (mornings.size() == 6) {
            return FULL;
        }
        mornings.add(new int[] {a, b});
        return mornings.size();
    }

    int forget() {
        int told = mornings.size();
        mornings.clear();
        return told;
    }

    private boolean asWoken(Walked round) {
        for (int[] two : mornings) {
            if (now.here[two[0]] && now.here[two[1]] && round.order.indexOf(two[0]) > round.order.indexOf(two[1])) {
                return false;
            }
        }
        return true;
    }

    int slates(int what) {
        if (what != 0 && what != 1) {
            return BAD;
        }
        int twos = 0;
        int first = NONE;
        for (int a = 5; a >= 0; a--) {
            for (int b = 5; b >= 0; b--) {
                if (canBeAsked(a, b)) {
                    twos++;
                    first = 10 * a + b;
                }
            }
        }
        return what == 0 ? twos : first;
    }

    private boolean canBeAsked(int a, int b) {
        if (a == b || !isGuest(a) || !isGuest(b) || !now.here[a] || !now.here[b]) {
            return false;
        }
        for (Walked round : goodRounds(now)) {
            if (asWoken(round) && round.order.indexOf(a) < round.order.indexOf(b)) {
                return true;
            }
        }
        return false;
    }

    int washed() {
        int rounds = 0;
        for (Walked round : rounds(now)) {
            rounds += asWoken(round) ? 1 : 0;
        }
        return rounds;
    }

    int two(int what) {
        if (what != 0 && what != 1) {
            return BAD;
        }
        int least = Integer.MAX_VALUE;
        int which = 0;
        for (int set = 0; set < 64; set++) {
            List<Integer> first = new ArrayList<>();
            List<Integer> second = allHere(now);
            for (int g = 0; g < 6; g++) {
                if ((set & 1 << g) != 0) {
                    first.add(g);
                }
            }
            if (second.containsAll(first)) {
                second.removeAll(first);
                int later = Math.max(endOf(first), endOf(second));
                which = later < least ? set : which;
                least = Math.min(least, later);
            }
        }
        return what == 0 ? least : which;
    }

    private int endOf(List<Integer> those) {
        int highest = 0;
        int waking = 0;
        for (int g : those) {
            highest = Math.max(highest, now.floors[g]);
            waking += waking(now, g);
        }
        return laid.start + highest + waking;
    }

    int overslept(int g, int x, int part) {
        if (!isGuest(g) || x < 0 || x > 10 || part != 0 && part != 1) {
            return BAD;
        }
        if (!now.here[g]) {
            return NO;
        }
        BigInteger above = BigInteger.ONE;
        BigInteger below = BigInteger.ONE;
        for (int other : allHere(now)) {
            if (other == g || (hangs(other) & 1 << g) != 0) {
                above = above.multiply(BigInteger.valueOf(10 - x));
                below = below.multiply(BigInteger.TEN);
            }
        }
        BigInteger common = above.gcd(below);
        return (part == 0 ? above : below).divide(common).intValueExact();
    }

    int dawn(int z, int n, int what) {
        if (z < 0 || z > 9999 || n < 1 || n > 40 || what != 0 && what != 1) {
            return BAD;
        }
        int dawns = 0;
        int minutes = 0;
        for (int k = 0; k < n; k++) {
            BigInteger x = BigInteger.valueOf(7919L * z + 6151L * k + 1);
            int draw = x.multiply(x).mod(BigInteger.valueOf(65521)).intValueExact() / 8;
            State state = now.copy();
            state.here[draw % state.here.length] = false;
            Walked round = soonestRound(state);
            if (round != null) {
                dawns++;
                minutes += round.end;
            }
        }
        return what == 0 ? dawns : minutes;
    }

    int keep() {
        if (keeps.size() == 2) {
            return FULL;
        }
        keeps.push(now.copy());
        return keeps.size();
    }

    int back() {
        if (keeps.isEmpty()) {
            return NO;
        }
        now = keeps.pop();
        undos.clear();
        return keeps.size();
    }

    int count(int what) {
        int struck = 0;
        for (boolean out : now.struck) {
            struck += out ? 1 : 0;
        }
        int[] answers = {
            laid.guests.size(), allHere(now).size(), laid.wishes.size(), Integer.bitCount(standing(now)), struck,
            laid.start, mornings.size(), undos.size(), keeps.size(), text.length()
        };
        return what < 0 || what >= answers.length ? BAD : answers[what];
    }
}
