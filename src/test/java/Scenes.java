import java.util.ArrayList;
import java.util.List;

/** Canopies that many tests begin with, each made anew, and always the same. */
final class Scenes {
    /** How many platforms, lines and riders busy() has. */
    static final int BUSY_PLATFORMS = 5;
    static final int BUSY_LINES = 5;
    static final int BUSY_RIDERS = 7;

    interface Scene {
        ZipCanopy make();
    }

    private Scenes() {
    }

    static ZipCanopy empty() {
        return new ZipCanopy();
    }

    /**
     * Some wait, ride, have arrived and are gone, one trolley is pulled up; line 1 alone has three trolleys. Platform
     * 0 is the highest, 1 and 2 are of one height, the last is the lowest.
     */
    static ZipCanopy busy() {
        ZipCanopy canopy = new ZipCanopy();
        canopy.build(0, 0, 60);
        canopy.build(10, 0, 40);
        canopy.build(0, 10, 40);
        canopy.build(20, 10, 15);
        canopy.build(40, 30, 0);
        canopy.span(0, 1, 120, 1);
        canopy.span(0, 2, 150, 3);
        canopy.span(1, 3, 90, 1);
        canopy.span(2, 3, 100, 2);
        canopy.span(3, 4, 110, 1);
        canopy.setWind(2, 6);
        canopy.setWind(4, 9);
        canopy.setWind(10, 5);
        canopy.come(0, 4, 80, 30);
        canopy.come(0, 4, 95, 40);
        canopy.come(0, 1, 50, 10);
        canopy.come(1, 4, 90, 20);
        canopy.come(2, 4, 120, 60);
        canopy.come(4, 4, 30, 5);
        canopy.pass(3);
        canopy.come(0, 4, 85, 12);
        return canopy;
    }

    /** All places are taken. Platform 0 is the highest, 1 and 2 are of one height, 7 is the lowest. */
    static ZipCanopy full() {
        ZipCanopy canopy = new ZipCanopy();
        int[][] trees = {{20, 20, 60}, {10, 20, 45}, {30, 20, 45}, {20, 10, 30}, {20, 30, 30}, {5, 5, 15},
            {35, 35, 14}, {40, 0, 0}};
        for (int[] tree : trees) {
            canopy.build(tree[0], tree[1], tree[2]);
        }
        int[][] cables = {{0, 1, 120, 1}, {0, 2, 120, 2}, {1, 3, 100, 1}, {1, 4, 110, 1}, {2, 3, 120, 2},
            {2, 4, 120, 1}, {3, 5, 120, 1}, {4, 6, 120, 1}, {5, 7, 120, 1}, {6, 7, 120, 2}, {3, 7, 60, 1},
            {0, 7, 40, 3}};
        for (int[] cable : cables) {
            canopy.span(cable[0], cable[1], cable[2], cable[3]);
        }
        for (int i = 0; i < 12; i++) {
            canopy.come(i % 3, i == 9 ? 0 : i == 11 ? 7 : 3 + (i + 2) % 5, 30 + 8 * i, 4 + 3 * i);
            canopy.setWind(i, (7 * i + 2) % 8);
        }
        canopy.pass(4);
        return canopy;
    }

    /** All that a canopy tells now and in its next minutes; it is used up by this. At most 250 calls. */
    static List<Long> storyOf(ZipCanopy canopy) {
        List<Long> story = new ArrayList<>();
        story.add(canopy.digest());
        story.add(Double.doubleToLongBits(canopy.mean()));
        for (int i = 0; i < canopy.count(3); i++) {
            story.add((long) canopy.arrives(i));
        }
        for (int minutes = 1; minutes <= 30; minutes += 7) {
            story.add((long) canopy.advise(minutes));
        }
        int platforms = canopy.count(1);
        for (int i = 0; i < platforms * platforms; i++) {
            story.add((long) canopy.way(i / platforms, i % platforms, 95));
        }
        for (int minute = 0; minute < 50; minute++) {
            story.add((long) canopy.pass(1));
            story.add(canopy.digest());
        }
        return story;
    }
}
