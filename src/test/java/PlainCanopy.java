import java.util.ArrayList;
import java.util.Arrays;
import java.util.List;

/**
 * The document once more, with lists and copies of everything and without any care for speed:
 * RandomRunsTest compares ZipCanopy with it.
 */
final class PlainCanopy {
    private static final class Tree {
        int x;
        int y;
        int height;
        final List<Guest> queue = new ArrayList<>();
    }

    private static final class Trolley {
        Guest guest;
        int left;
    }

    private static final class Cable {
        int top;
        int bottom;
        int most;
        int rides;
        int stuck;
        int atTop;
        final List<Trolley> away = new ArrayList<>();
    }

    private static final class Guest {
        int number;
        int weight;
        int patience;
        int goal;
        int state;
        int tree = -1;
        int cable = -1;
        int waited;
        int taken;
        int arrival = -1;
    }

    private final List<Tree> trees = new ArrayList<>();
    private final List<Cable> cables = new ArrayList<>();
    private final List<Guest> guests = new ArrayList<>();
    private final int[] winds = new int[12];
    private int minute;

    private PlainCanopy copy() {
        PlainCanopy copy = new PlainCanopy();
        for (Guest g : guests) {
            Guest c = new Guest();
            c.number = g.number;
            c.weight = g.weight;
            c.patience = g.patience;
            c.goal = g.goal;
            c.state = g.state;
            c.tree = g.tree;
            c.cable = g.cable;
            c.waited = g.waited;
            c.taken = g.taken;
            c.arrival = g.arrival;
            copy.guests.add(c);
        }
        for (Tree t : trees) {
            Tree c = new Tree();
            c.x = t.x;
            c.y = t.y;
            c.height = t.height;
            for (Guest g : t.queue) {
                c.queue.add(copy.guests.get(g.number));
            }
            copy.trees.add(c);
        }
        for (Cable l : cables) {
            Cable c = new Cable();
            c.top = l.top;
            c.bottom = l.bottom;
            c.most = l.most;
            c.rides = l.rides;
            c.stuck = l.stuck;
            c.atTop = l.atTop;
            for (Trolley t : l.away) {
                Trolley k = new Trolley();
                k.guest = t.guest == null ? null : copy.guests.get(t.guest.number);
                k.left = t.left;
                c.away.add(k);
            }
            copy.cables.add(c);
        }
        System.arraycopy(winds, 0, copy.winds, 0, 12);
        copy.minute = minute;
        return copy;
    }

    private static void refuseUnless(boolean fine, RuntimeException refusal) {
        if (!fine) {
            throw refusal;
        }
    }

    private static void index(int i, int size) {
        refuseUnless(0 <= i && i < size, new IndexOutOfBoundsException());
    }

    private static void argument(int a, int least, int most) {
        refuseUnless(least <= a && a <= most, new IllegalArgumentException());
    }

    private int length(Cable l) {
        Tree a = trees.get(l.top);
        Tree b = trees.get(l.bottom);
        return Math.max(a.x - b.x, b.x - a.x) + Math.max(a.y - b.y, b.y - a.y);
    }

    private int drop(Cable l) {
        return trees.get(l.top).height - trees.get(l.bottom).height;
    }

    private boolean stuck(Cable l, int weight) {
        return weight * drop(l) < 10 * length(l);
    }

    private int takes(Cable l, int weight) {
        int speed = drop(l) + weight / 10;
        int minutes = (2 * length(l) + speed - 1) / speed;
        return stuck(l, weight) ? minutes + minutes : minutes;
    }

    private boolean closed(Cable l) {
        return length(l) > 80 - 8 * winds[minute % 12];
    }

    /** -1 without a way; tried by going down every line. */
    private int fewest(int from, int to, int weight) {
        if (from == to) {
            return 0;
        }
        int best = -1;
        for (Cable l : cables) {
            if (l.top == from && l.most >= weight) {
                int rest = fewest(l.bottom, to, weight);
                if (rest >= 0 && (best < 0 || rest + 1 < best)) {
                    best = rest + 1;
                }
            }
        }
        return best;
    }

    private int first(int from, int to, int weight) {
        int lines = fewest(from, to, weight);
        for (int i = 0; i < cables.size() && lines > 0; i++) {
            Cable l = cables.get(i);
            if (l.top == from && l.most >= weight && fewest(l.bottom, to, weight) == lines - 1) {
                return i;
            }
        }
        return -1;
    }

    private void stand(Guest g, int tree) {
        g.tree = tree;
        g.cable = -1;
        g.waited = 0;
        if (tree == g.goal) {
            g.state = 2;
            g.arrival = minute;
        } else {
            g.state = 0;
            trees.get(tree).queue.add(g);
        }
    }

    private void goOn() {
        for (Cable l : cables) {
            for (Trolley t : new ArrayList<>(l.away)) {
                t.left--;
                if (t.left == 0 && t.guest != null) {
                    stand(t.guest, l.bottom);
                    t.guest = null;
                    t.left = (length(l) + 9) / 10;
                } else if (t.left == 0) {
                    l.away.remove(t);
                    l.atTop++;
                }
            }
        }
        for (int i = 0; i < cables.size(); i++) {
            Cable l = cables.get(i);
            if (closed(l) || l.atTop == 0) {
                continue;
            }
            for (Guest g : trees.get(l.top).queue) {
                if (first(l.top, g.goal, g.weight) == i) {
                    leave(l, i, g);
                    break;
                }
            }
        }
        for (Guest g : guests) {
            if (g.state == 0) {
                g.waited++;
                if (g.waited >= g.patience || fewest(g.tree, g.goal, g.weight) < 0) {
                    trees.get(g.tree).queue.remove(g);
                    g.state = 3;
                    g.tree = -1;
                }
            }
        }
        minute++;
    }

    private void leave(Cable l, int number, Guest g) {
        trees.get(l.top).queue.remove(g);
        g.state = 1;
        g.tree = -1;
        g.cable = number;
        g.taken++;
        Trolley t = new Trolley();
        t.guest = g;
        t.left = takes(l, g.weight);
        l.away.add(t);
        l.atTop--;
        l.rides++;
        if (stuck(l, g.weight)) {
            l.stuck++;
        }
    }

    int build(int x, int y, int height) {
        argument(x, 0, 40);
        argument(y, 0, 40);
        argument(height, 0, 60);
        for (Tree t : trees) {
            refuseUnless(t.x != x || t.y != y, new IllegalStateException());
        }
        refuseUnless(trees.size() < 8, new IllegalStateException());
        Tree t = new Tree();
        t.x = x;
        t.y = y;
        t.height = height;
        trees.add(t);
        return trees.size() - 1;
    }

    int span(int top, int bottom, int most, int trolleys) {
        index(top, trees.size());
        index(bottom, trees.size());
        refuseUnless(trees.get(bottom).height < trees.get(top).height, new IllegalArgumentException());
        argument(most, 20, 150);
        argument(trolleys, 1, 3);
        refuseUnless(cables.size() < 12, new IllegalStateException());
        Cable l = new Cable();
        l.top = top;
        l.bottom = bottom;
        l.most = most;
        l.atTop = trolleys;
        cables.add(l);
        return cables.size() - 1;
    }

    int add(int line) {
        index(line, cables.size());
        Cable l = cables.get(line);
        refuseUnless(l.atTop + l.away.size() < 3, new IllegalStateException());
        l.atTop++;
        return l.atTop + l.away.size();
    }

    int setWind(int at, int wind) {
        index(at, 12);
        argument(wind, 0, 9);
        int before = winds[at];
        winds[at] = wind;
        return before;
    }

    int platform(int platform, int what) {
        index(platform, trees.size());
        index(what, 8);
        Tree t = trees.get(platform);
        int first = t.queue.isEmpty() ? -1 : t.queue.get(0).number;
        int tops = 0;
        int bottoms = 0;
        for (Cable l : cables) {
            tops += l.top == platform ? 1 : 0;
            bottoms += l.bottom == platform ? 1 : 0;
        }
        int arrived = 0;
        for (Guest g : guests) {
            arrived += g.state == 2 && g.goal == platform ? 1 : 0;
        }
        return new int[] {t.x, t.y, t.height, t.queue.size(), first, tops, bottoms, arrived}[what];
    }

    int line(int line, int what) {
        index(line, cables.size());
        index(what, 11);
        Cable l = cables.get(line);
        int riding = 0;
        for (Trolley t : l.away) {
            riding += t.guest != null ? 1 : 0;
        }
        return new int[] {l.top, l.bottom, l.most, length(l), drop(l), l.atTop + l.away.size(), l.atTop, riding,
            l.rides, l.stuck, closed(l) ? 1 : 0}[what];
    }

    int ride(int line, int weight) {
        index(line, cables.size());
        argument(weight, 20, 120);
        Cable l = cables.get(line);
        return weight > l.most ? 0 : stuck(l, weight) ? -takes(l, weight) : takes(l, weight);
    }

    int come(int platform, int goal, int weight, int patience) {
        index(platform, trees.size());
        index(goal, trees.size());
        argument(weight, 20, 120);
        argument(patience, 1, 60);
        refuseUnless(guests.size() < 12, new IllegalStateException());
        Guest g = new Guest();
        g.number = guests.size();
        g.weight = weight;
        g.patience = patience;
        g.goal = goal;
        guests.add(g);
        stand(g, platform);
        return g.number;
    }

    int rider(int rider, int what) {
        index(rider, guests.size());
        index(what, 11);
        Guest g = guests.get(rider);
        int minutes = g.state == 0 ? g.waited : 0;
        for (Cable l : cables) {
            for (Trolley t : l.away) {
                if (t.guest == g) {
                    minutes = t.left;
                }
            }
        }
        int lines = g.state == 0 ? Math.max(0, fewest(g.tree, g.goal, g.weight)) : 0;
        int first = g.state == 0 ? first(g.tree, g.goal, g.weight) : -1;
        return new int[] {g.weight, g.patience, g.goal, g.state, g.tree, g.cable, minutes, lines, first, g.taken,
            g.arrival}[what];
    }

    int queue(int platform, int index) {
        index(platform, trees.size());
        index(index, trees.get(platform).queue.size());
        return trees.get(platform).queue.get(index).number;
    }

    int pass(int minutes) {
        argument(minutes, 1, 100);
        int before = count(6);
        for (int i = 0; i < minutes; i++) {
            goOn();
        }
        return count(6) - before;
    }

    int count(int what) {
        index(what, 10);
        int[] states = new int[4];
        for (Guest g : guests) {
            states[g.state]++;
        }
        int trolleys = 0;
        int rides = 0;
        for (Cable l : cables) {
            trolleys += l.atTop + l.away.size();
            rides += l.rides;
        }
        return new int[] {minute, trees.size(), cables.size(), guests.size(), states[0], states[1], states[2],
            states[3], trolleys, rides}[what];
    }

    int way(int from, int to, int weight) {
        index(from, trees.size());
        index(to, trees.size());
        argument(weight, 20, 120);
        return fewest(from, to, weight);
    }

    int arrives(int rider) {
        index(rider, guests.size());
        PlainCanopy copy = copy();
        for (int i = 0; i < 200; i++) {
            copy.goOn();
        }
        return copy.guests.get(rider).arrival;
    }

    int advise(int minutes) {
        argument(minutes, 1, 30);
        PlainCanopy without = copy();
        without.pass(minutes);
        int[] helped = new int[cables.size()];
        for (int i = 0; i < helped.length; i++) {
            if (line(i, 5) < 3) {
                PlainCanopy with = copy();
                with.add(i);
                with.pass(minutes);
                helped[i] = with.count(6) - without.count(6);
            }
        }
        int most = Arrays.stream(helped).max().orElse(0);
        for (int i = 0; i < helped.length; i++) {
            if (most > 0 && helped[i] == most) {
                return i;
            }
        }
        return -1;
    }

    double mean() {
        return guests.stream().filter(g -> g.state == 2).mapToInt(g -> g.arrival).average().orElse(0);
    }

    long digest() {
        List<Integer> told = new ArrayList<>();
        for (int what = 0; what < 10; what++) {
            told.add(count(what));
        }
        for (int wind : winds) {
            told.add(wind);
        }
        for (int i = 0; i < trees.size(); i++) {
            for (int what = 0; what < 8; what++) {
                told.add(platform(i, what));
            }
            for (Guest g : trees.get(i).queue) {
                told.add(g.number);
            }
        }
        for (int i = 0; i < cables.size() * 11; i++) {
            told.add(line(i / 11, i % 11));
        }
        for (int i = 0; i < guests.size() * 11; i++) {
            told.add(rider(i / 11, i % 11));
        }
        long d = 593;
        for (int x : told) {
            d = d * 31 + x;
        }
        return d;
    }
}
