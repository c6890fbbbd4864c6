import java.math.BigInteger;
import java.util.ArrayDeque;
import java.util.ArrayList;
import java.util.Arrays;
import java.util.Deque;
import java.util.HashMap;
import java.util.List;
import java.util.Map;
import java.util.TreeMap;
import java.util.TreeSet;

/**
 * The document once more, as slow and plain as can be and by other ways than the class: every
 * sharing is tried, nothing is counted by tables. The random runs compare the two.
 */
final class Reference {
    static final int NONE = -9;

    /** The state, never changed once it is remembered or saved. */
    static final class State {
        final List<int[]> likes = new ArrayList<>();
        final List<Integer> holds = new ArrayList<>();
        final List<Boolean> left = new ArrayList<>();

        State copy() {
            State copy = new State();
            for (int[] row : likes) {
                copy.likes.add(row.clone());
            }
            copy.holds.addAll(holds);
            copy.left.addAll(left);
            return copy;
        }

        int size() {
            return likes.size();
        }

        boolean has(long i) {
            return i >= 0 && i < size();
        }

        List<Integer> present() {
            List<Integer> present = new ArrayList<>();
            for (int i = 0; i < size(); i++) {
                if (!left.get(i)) {
                    present.add(i);
                }
            }
            return present;
        }

        int likesHeld(int i) {
            return likes.get(i)[holds.get(i)];
        }

        int ranks() {
            int sum = 0;
            for (int i = 0; i < size(); i++) {
                sum += likesHeld(i);
            }
            return sum;
        }
    }

    /** The trading: for each trader what it gets, and the rings in their order. */
    static final class Found {
        final Map<Integer, Integer> gets = new HashMap<>();
        final Map<Integer, Integer> first = new HashMap<>();
        final List<TreeSet<Integer>> rings = new ArrayList<>();
        final List<Integer> roundOfRing = new ArrayList<>();
        int rounds;

        int ringOf(int i) {
            for (int k = 0; k < rings.size(); k++) {
                if (rings.get(k).contains(i)) {
                    return k;
                }
            }
            return NONE;
        }
    }

    private final StringBuilder text = new StringBuilder();
    private State now = new State();
    private final Deque<State> remembered = new ArrayDeque<>();
    private final State[] slots = new State[2];

    // ---- text

    int append(int c) {
        if (c < 0 || c > 255) {
            throw new IllegalArgumentException();
        }
        if (text.length() == 70) {
            throw new IllegalStateException();
        }
        text.append((char) c);
        return text.length();
    }

    int clearText() {
        int length = text.length();
        text.setLength(0);
        return length;
    }

    /** The characters that may follow a beginning that is right; $ stands for the end. */
    private static String mayFollow(String start) {
        if (start.isEmpty()) {
            return "M";
        }
        if (start.length() == 1) {
            return "1234567";
        }
        int n = start.charAt(1) - '0';
        int ranks = start.length() - 2;
        if (ranks < n * n) {
            return "0123456789";
        }
        if (ranks == n * n) {
            return "/$";
        }
        String held = start.substring(start.indexOf('/') + 1);
        String digits = held.replace("!", "");
        StringBuilder next = new StringBuilder();
        if (digits.length() == n) {
            next.append('$');
        } else {
            for (char c = '0'; c < '0' + n; c++) {
                if (digits.indexOf(c) < 0) {
                    next.append(c);
                }
            }
        }
        if (!held.isEmpty() && !held.endsWith("!")) {
            next.append('!');
        }
        return next.toString();
    }

    int errorPosition() {
        for (int k = 0; k < text.length(); k++) {
            char c = text.charAt(k);
            if (c == '$' || mayFollow(text.substring(0, k)).indexOf(c) < 0) {
                return k;
            }
        }
        return mayFollow(text.toString()).indexOf('$') >= 0 ? NONE : text.length();
    }

    int load() {
        if (errorPosition() != NONE) {
            throw new IllegalStateException();
        }
        State read = new State();
        int n = text.charAt(1) - '0';
        for (int i = 0; i < n; i++) {
            int[] row = new int[n];
            for (int t = 0; t < n; t++) {
                row[t] = text.charAt(2 + i * n + t) - '0';
            }
            read.likes.add(row);
            read.holds.add(i);
            read.left.add(false);
        }
        int slash = text.indexOf("/");
        int i = -1;
        for (int k = slash + 1; slash >= 0 && k < text.length(); k++) {
            if (text.charAt(k) == '!') {
                read.left.set(i, true);
            } else {
                i++;
                read.holds.set(i, text.charAt(k) - '0');
            }
        }
        now = read;
        remembered.clear();
        Arrays.fill(slots, null);
        return now.present().size();
    }

    // ---- what there is

    static Found trading(State s, List<Integer> who) {
        Found found = new Found();
        List<Integer> open = new ArrayList<>(who);
        while (!open.isEmpty()) {
            Map<Integer, Integer> points = new TreeMap<>();
            for (int i : open) {
                points.put(i, pointed(s, i, open));
            }
            if (found.rounds == 0) {
                found.first.putAll(points);
            }
            TreeMap<Integer, TreeSet<Integer>> byLowest = new TreeMap<>();
            for (int i : open) {
                int at = i;
                for (int step = 0; step < 20; step++) {
                    at = points.get(at);
                }
                TreeSet<Integer> ring = new TreeSet<>();
                while (ring.add(at)) {
                    at = points.get(at);
                }
                byLowest.put(ring.first(), ring);
            }
            for (TreeSet<Integer> ring : byLowest.values()) {
                found.rings.add(ring);
                found.roundOfRing.add(found.rounds);
                for (int i : ring) {
                    found.gets.put(i, s.holds.get(points.get(i)));
                    open.remove((Integer) i);
                }
            }
            found.rounds++;
        }
        return found;
    }

    private static int pointed(State s, int i, List<Integer> open) {
        int best = 99;
        for (int j : open) {
            best = Math.min(best, s.likes.get(i)[s.holds.get(j)]);
        }
        if (s.likesHeld(i) == best) {
            return i;
        }
        for (int j : open) {
            if (s.likes.get(i)[s.holds.get(j)] == best) {
                return j;
            }
        }
        throw new AssertionError();
    }

    private Found trading() {
        return trading(now, now.present());
    }

    int about(int what) {
        int number = 0;
        switch (what) {
            case 0:
                return now.size();
            case 1:
                return now.present().size();
            case 2:
                for (int i = 0; i < now.size(); i++) {
                    number += now.holds.get(i) == i ? 1 : 0;
                }
                return number;
            case 3:
                return now.ranks();
            case 4:
                return trading().rings.size();
            case 5:
                return trading().rounds;
            case 6:
                for (Map.Entry<Integer, Integer> e : trading().gets.entrySet()) {
                    number += e.getValue().equals(now.holds.get(e.getKey())) ? 0 : 1;
                }
                return number;
            case 7:
                for (int i : now.present()) {
                    for (int j : now.present()) {
                        number += now.likes.get(i)[now.holds.get(j)] < now.likesHeld(i) ? 1 : 0;
                    }
                }
                return number;
            default:
                throw new IllegalArgumentException();
        }
    }

    private void need(boolean exists) {
        if (!exists) {
            throw new IndexOutOfBoundsException();
        }
    }

    int trader(int i, int what) {
        need(now.has(i));
        if (what < 0 || what > 6) {
            throw new IllegalArgumentException();
        }
        if (what == 0) {
            return now.holds.get(i);
        }
        if (what == 1) {
            return now.likesHeld(i);
        }
        if (now.left.get(i)) {
            return what == 2 ? 0 : NONE;
        }
        Found found = trading();
        int k = found.ringOf(i);
        return what == 2 ? 1 : what == 3 ? found.gets.get(i) : what == 4 ? found.roundOfRing.get(k)
            : what == 5 ? k : found.first.get(i);
    }

    int rank(int i, int t) {
        need(now.has(i) && now.has(t));
        return now.likes.get(i)[t];
    }

    int holder(int t) {
        need(now.has(t));
        return now.holds.indexOf(t);
    }

    int ring(int k, int what) {
        Found found = trading();
        need(k >= 0 && k < found.rings.size());
        if (what < 0 || what > 3) {
            throw new IllegalArgumentException();
        }
        int bits = 0;
        int gain = 0;
        for (int i : found.rings.get(k)) {
            bits += 1 << i;
            gain += now.likesHeld(i) - now.likes.get(i)[found.gets.get(i)];
        }
        return what == 0 ? bits : what == 1 ? found.rings.get(k).size()
            : what == 2 ? found.roundOfRing.get(k) : gain;
    }

    static int whyNot(State s, int i, int j) {
        if (i == j) {
            return 1;
        }
        if (s.left.get(i)) {
            return 2;
        }
        if (s.left.get(j)) {
            return 3;
        }
        int iThen = s.likes.get(i)[s.holds.get(j)];
        int jThen = s.likes.get(j)[s.holds.get(i)];
        if (iThen > s.likesHeld(i)) {
            return 4;
        }
        if (jThen > s.likesHeld(j)) {
            return 5;
        }
        return iThen < s.likesHeld(i) || jThen < s.likesHeld(j) ? 0 : 6;
    }

    int whyNot(int i, int j) {
        need(now.has(i) && now.has(j));
        return whyNot(now, i, j);
    }

    // ---- actions

    private void remember() {
        remembered.addLast(now);
        if (remembered.size() > 14) {
            remembered.removeFirst();
        }
        now = now.copy();
    }

    int addTrader() {
        if (now.size() == 7) {
            throw new IllegalStateException();
        }
        remember();
        int added = now.size();
        for (int i = 0; i < added; i++) {
            int[] longer = Arrays.copyOf(now.likes.get(i), added + 1);
            longer[added] = 5;
            now.likes.set(i, longer);
        }
        int[] own = new int[added + 1];
        Arrays.fill(own, 5);
        own[added] = 6;
        now.likes.add(own);
        now.holds.add(added);
        now.left.add(false);
        return added;
    }

    int setRank(int i, int t, int r) {
        need(now.has(i) && now.has(t));
        if (r < 0 || r > 9) {
            throw new IllegalArgumentException();
        }
        remember();
        int before = now.likes.get(i)[t];
        now.likes.get(i)[t] = r;
        return before;
    }

    private static void swap(State s, int i, int j) {
        Integer held = s.holds.get(i);
        s.holds.set(i, s.holds.get(j));
        s.holds.set(j, held);
    }

    int exchange(int i, int j) {
        need(now.has(i) && now.has(j));
        if (whyNot(now, i, j) != 0) {
            throw new IllegalStateException();
        }
        remember();
        swap(now, i, j);
        return now.holds.get(i);
    }

    private static int differences(State before, State after) {
        int different = 0;
        for (int i = 0; i < after.size(); i++) {
            different += before.holds.get(i).equals(after.holds.get(i)) ? 0 : 1;
        }
        return different;
    }

    int doRing(int k) {
        Found found = trading();
        need(k >= 0 && k < found.rings.size());
        remember();
        for (int i : found.rings.get(k)) {
            now.holds.set(i, found.gets.get(i));
        }
        return differences(remembered.getLast(), now);
    }

    int trade() {
        Found found = trading();
        remember();
        for (int i : now.present()) {
            now.holds.set(i, found.gets.get(i));
        }
        return differences(remembered.getLast(), now);
    }

    int leave(int i) {
        need(now.has(i));
        if (now.left.get(i)) {
            throw new IllegalStateException();
        }
        remember();
        now.left.set(i, true);
        return now.present().size();
    }

    int goHome() {
        remember();
        for (int i = 0; i < now.size(); i++) {
            now.holds.set(i, i);
            now.left.set(i, false);
        }
        return differences(remembered.getLast(), now);
    }

    int undo() {
        if (remembered.isEmpty()) {
            throw new IllegalStateException();
        }
        now = remembered.removeLast();
        return remembered.size();
    }

    // ---- what would be

    /** All orders of the things, those with smaller numbers in front first. */
    private static List<List<Integer>> orders(List<Integer> things) {
        List<List<Integer>> all = new ArrayList<>();
        if (things.isEmpty()) {
            all.add(new ArrayList<>());
        }
        for (int t : new TreeSet<>(things)) {
            List<Integer> rest = new ArrayList<>(things);
            rest.remove((Integer) t);
            for (List<Integer> order : orders(rest)) {
                order.add(0, t);
                all.add(order);
            }
        }
        return all;
    }

    private static boolean isBetter(State s, List<Integer> who, List<Integer> order, boolean much) {
        boolean some = false;
        boolean each = true;
        for (int k = 0; k < who.size(); k++) {
            int i = who.get(k);
            int then = s.likes.get(i)[order.get(k)];
            if (then > s.likesHeld(i)) {
                return false;
            }
            some |= then < s.likesHeld(i);
            each &= then < s.likesHeld(i);
        }
        return much ? each && some : some;
    }

    private static List<Integer> membersOf(int group) {
        List<Integer> members = new ArrayList<>();
        for (int i = 0; i < 7; i++) {
            if ((group & 1 << i) != 0) {
                members.add(i);
            }
        }
        return members;
    }

    private static List<Integer> betterGroups(State s, boolean much) {
        List<Integer> groups = new ArrayList<>();
        for (int group = 1; group < 1 << s.size(); group++) {
            List<Integer> members = membersOf(group);
            for (List<Integer> order : orders(members)) {
                if (isBetter(s, members, order, much)) {
                    groups.add(group);
                    break;
                }
            }
        }
        return groups;
    }

    int group(boolean much) {
        for (int size = 1; size <= 7; size++) {
            for (int group : betterGroups(now, much)) {
                if (membersOf(group).size() == size) {
                    return group;
                }
            }
        }
        return NONE;
    }

    int groups(boolean much) {
        return betterGroups(now, much).size();
    }

    private List<Integer> heldByPresent() {
        List<Integer> things = new ArrayList<>();
        for (int i : now.present()) {
            things.add(now.holds.get(i));
        }
        return things;
    }

    private int sumOf(List<Integer> order) {
        int sum = 0;
        for (int k = 0; k < order.size(); k++) {
            sum += now.likes.get(now.present().get(k))[order.get(k)];
        }
        return sum;
    }

    private List<Integer> leastOrder() {
        List<Integer> best = null;
        for (List<Integer> order : orders(heldByPresent())) {
            if (best == null || sumOf(order) < sumOf(best)) {
                best = order;
            }
        }
        return best;
    }

    int least() {
        return sumOf(leastOrder());
    }

    int leastOf(int i) {
        need(now.has(i));
        return now.left.get(i) ? NONE : leastOrder().get(now.present().indexOf(i));
    }

    int betterWays() {
        int ways = 0;
        for (List<Integer> order : orders(heldByPresent())) {
            ways += isBetter(now, now.present(), order, false) ? 1 : 0;
        }
        return ways;
    }

    int harms(int i) {
        need(now.has(i));
        if (now.left.get(i)) {
            return 0;
        }
        List<Integer> others = now.present();
        others.remove((Integer) i);
        Found with = trading();
        Found without = trading(now, others);
        int bits = 0;
        for (int j : others) {
            int[] likes = now.likes.get(j);
            bits += likes[without.gets.get(j)] > likes[with.gets.get(j)] ? 1 << j : 0;
        }
        return bits;
    }

    int fewest(int i, int t) {
        need(now.has(i) && now.has(t));
        if (now.left.get(i)) {
            return NONE;
        }
        Map<List<Integer>, Integer> steps = new HashMap<>();
        Deque<List<Integer>> next = new ArrayDeque<>();
        steps.put(now.holds, 0);
        next.add(now.holds);
        while (!next.isEmpty()) {
            List<Integer> holds = next.removeFirst();
            if (holds.get(i) == t) {
                return steps.get(holds);
            }
            State s = now.copy();
            s.holds.clear();
            s.holds.addAll(holds);
            for (int a : s.present()) {
                for (int b : s.present()) {
                    if (whyNot(s, a, b) == 0) {
                        swap(s, a, b);
                        List<Integer> then = new ArrayList<>(s.holds);
                        swap(s, a, b);
                        if (!steps.containsKey(then)) {
                            steps.put(then, steps.get(holds) + 1);
                            next.addLast(then);
                        }
                    }
                }
            }
        }
        return NONE;
    }

    // ---- scripts, simulations: on a second object, by its own methods

    private Reference second() {
        Reference second = new Reference();
        second.now = now.copy();
        return second;
    }

    int runScript(int n, long script) {
        if (n < 1 || n > 4 || script < 0 || Long.toString(script).length() > 4 * n) {
            throw new IllegalArgumentException();
        }
        String digits = "0".repeat(16) + script;
        digits = digits.substring(digits.length() - 4 * n);
        Reference second = second();
        for (int k = 0; k < n; k++) {
            boolean succeeds;
            try {
                succeeds = second.does(digits.substring(4 * k, 4 * k + 4));
            } catch (IndexOutOfBoundsException | IllegalStateException e) {
                succeeds = false;
            }
            if (!succeeds) {
                return k;
            }
        }
        return NONE;
    }

    private boolean does(String command) {
        int b = command.charAt(1) - '0';
        int c = command.charAt(2) - '0';
        int d = command.charAt(3) - '0';
        if (command.matches("1..0")) {
            exchange(b, c);
        } else if (command.matches("2.00")) {
            doRing(b);
        } else if (command.equals("3000")) {
            trade();
        } else if (command.matches("4.00")) {
            leave(b);
        } else if (command.matches("5...")) {
            setRank(b, c, d);
        } else if (command.equals("6000")) {
            goHome();
        } else if (command.matches("7..0")) {
            return now.has(b) && holder(c) == b;
        } else if (command.matches("80..")) {
            return about(3) <= Integer.parseInt(command.substring(2));
        } else if (command.matches("90[01].")) {
            return groups(c == 1) <= d;
        } else {
            return false;
        }
        return true;
    }

    int simulate(long seed, int m) {
        if (m < 1 || m > 99) {
            throw new IllegalArgumentException();
        }
        Reference second = second();
        BigInteger x = BigInteger.valueOf(seed);
        int exchanges = 0;
        for (int k = 0; k < m; k++) {
            x = BigInteger.valueOf(x.multiply(new BigInteger("6364136223846793005"))
                .add(new BigInteger("1442695040888963407")).longValue());
            int r = (int) (x.longValue() >>> 33);
            if (now.size() == 0) {
                continue;
            }
            int i = r / 16 % now.size();
            int j = r / 256 % now.size();
            if (second.whyNot(i, j) == 0) {
                second.exchange(i, j);
                exchanges++;
            }
            if (r % 16 == 0 && !second.now.left.get(i)) {
                second.leave(i);
            }
        }
        return 1000 * exchanges + 100 * second.about(1) + second.about(3);
    }

    // ---- save slots

    int save(int slot) {
        need(slot == 0 || slot == 1);
        slots[slot] = now.copy();
        return now.size();
    }

    int restore(int slot) {
        need(slot == 0 || slot == 1);
        if (slots[slot] == null) {
            throw new IllegalStateException();
        }
        now = slots[slot].copy();
        remembered.clear();
        return now.size();
    }
}
