/** Edges of promises 32 to 34, and of the Terms 6 behind VISITS: roads, doubt, the best way. */
public final class VisitsEdgesTest {
    private static final int BAD = MillInspectors.BAD, NONE = MillInspectors.NONE;

    public static void main(String[] args) {
        roadBounds();
        everyRoad();
        noRoadToItself();
        doubtBounds();
        wayBounds();
        justEnoughHours();
        nothingToDoubt();
        fewestHours();
        leastSet();
        oneTown();
        bestOrder();
        sixMills();
        notBack();
        Due.end("VisitsEdgesTest");
    }

    /** Terms 6: "HOURS between TOWNS 0 .. 8 (1 .. 30 either way; 10 at first, 0 to itself)". */
    private static void roadBounds() {
        Edge.of("road, from a TOWN", Busy::made, (x, n) -> x.road(n, 4, 1)).takes(0, 10).takes(8, 10).refusesBeyond(BAD);
        Edge.of("road, to a TOWN", Busy::made, (x, n) -> x.road(4, n, 1)).takes(0, 10).takes(8, 10).refusesBeyond(BAD);
        Edge.of("road, HOURS 1 .. 30", Busy::made, (x, n) -> x.road(0, 2, n)).takes(1, 3).takes(30, 3).refusesBeyond(BAD);
    }

    private static void everyRoad() {
        MillInspectors x = new MillInspectors();
        for (int a = 0; a < 9; a++) {
            for (int b = a + 1; b < 9; b++) {
                Due.is("a road at first", x.road(a, b, 1 + 3 * a), 10);
            }
        }
        for (int a = 0; a < 9; a++) {
            for (int b = a + 1; b < 9; b++) {
                Due.is("either way", x.road(b, a, 30), 1 + 3 * a);
                Due.is("and back", x.road(a, b, 1), 30);
            }
        }
    }

    private static void noRoadToItself() {
        for (int town = 0; town < 9; town++) {
            int its = town;
            Edge.refused("road to itself, " + town, Busy::made, BAD, x -> x.road(its, its, 1));
        }
    }

    /** Terms 6: "MILLS have DOUBT (0 .. 99; 0 at first)". */
    private static void doubtBounds() {
        Edge.of("doubt, a MILL", Busy::made, (x, n) -> x.doubt(n, 1)).takes(0, 5).takes(1, 4).refuses(NONE, BAD)
            .refusesBeyond(BAD);
        Edge.of("doubt, 0 .. 99", Busy::made, (x, n) -> x.doubt(0, n)).takes(0, 5).takes(99, 5).refusesBeyond(BAD);
        MillInspectors x = new MillInspectors();
        for (int m = 0; m < 6; m++) {
            x.mill(0, 1, 1);
            Due.is("doubt at first", x.doubt(m, 99), 0);
            Due.is("what it was", x.doubt(m, m), 99);
        }
        for (int m = 0; m < 6; m++) {
            Due.is("each by itself", x.doubt(m, 0), m);
        }
    }

    /** Terms 6: "with so many HOURS (1 .. 200)". */
    private static void wayBounds() {
        Edge.of("way, HOURS 1 .. 200", Busy::made, (x, n) -> x.way(n, 0)).takes(1, 0).takes(200, 9).refusesBeyond(BAD);
        Edge.of("way, what 0 .. 2", Busy::made, (x, n) -> x.way(200, n)).takes(0, 9).takes(1, 3).takes(2, 14)
            .refusesBeyond(BAD);
    }

    private static void best(String what, MillInspectors x, int hours, int doubt, int set, int needed) {
        Due.is(what + ": doubt", x.way(hours, 0), doubt);
        Due.is(what + ": set", x.way(hours, 1), set);
        Due.is(what + ": hours", x.way(hours, 2), needed);
    }

    /** A MILL in each of the towns told, with the doubt told behind each. */
    private static MillInspectors mills(int... townAndDoubt) {
        MillInspectors x = new MillInspectors();
        for (int k = 0; k + 1 < townAndDoubt.length; k += 2) {
            x.doubt(x.mill(0, 1, townAndDoubt[k]), townAndDoubt[k + 1]);
        }
        return x;
    }

    /** Terms 6: "each VISIT to a MILL 2 HOURS besides". */
    private static void justEnoughHours() {
        best("an hour too few", mills(1, 1), 11, 0, 0, 0);
        best("just enough", mills(1, 1), 12, 1, 1, 12);
        best("more than enough", mills(1, 1), 200, 1, 1, 12);
        best("two, an hour too few", mills(1, 2, 2, 3), 23, 3, 2, 12);
        best("two, just enough", mills(1, 2, 2, 3), 24, 5, 3, 24);
        MillInspectors near = mills(1, 1);
        near.road(1, 0, 1);
        best("the nearest, an hour too few", near, 2, 0, 0, 0);
        best("the nearest, just enough", near, 3, 1, 1, 3);
        MillInspectors far = mills(8, 99);
        far.road(8, 0, 30);
        best("the farthest, an hour too few", far, 31, 0, 0, 0);
        best("the farthest, just enough", far, 32, 99, 1, 32);
    }

    /** A MILL without DOUBT is worth no HOUR, nor is one that is too far. */
    private static void nothingToDoubt() {
        best("no mill", new MillInspectors(), 200, 0, 0, 0);
        best("a mill without doubt", mills(1, 0), 200, 0, 0, 0);
        best("two, one without doubt", mills(1, 0, 1, 7), 200, 7, 2, 12);
        best("six without doubt", mills(1, 0, 2, 0, 3, 0, 4, 0, 5, 0, 6, 0), 200, 0, 0, 0);
        MillInspectors x = mills(1, 5);
        x.doubt(0, 0);
        best("doubt taken back", x, 200, 0, 0, 0);
    }

    /** Terms 6: "of several the one with the fewest HOURS". */
    private static void fewestHours() {
        MillInspectors x = mills(1, 5, 2, 5);
        x.road(0, 2, 9);
        best("the nearer one, though its set is greater", x, 12, 5, 2, 11);
        x.road(0, 2, 10);
        x.road(0, 1, 9);
        best("the nearer one is the first", x, 12, 5, 1, 11);
        MillInspectors y = mills(1, 4, 2, 2, 3, 2);
        best("one of 4 takes fewer hours than 2 and 2", y, 13, 4, 1, 12);
        y.road(0, 1, 30);
        y.road(0, 2, 1);
        y.road(2, 3, 1);
        y.road(1, 2, 30);
        y.road(1, 3, 30);
        best("2 and 2 take fewer hours than one of 4", y, 32, 4, 6, 6);
    }

    /** Terms 6: "then the least set." */
    private static void leastSet() {
        best("of two alike the first", mills(1, 5, 2, 5), 12, 5, 1, 12);
        best("of three alike in pairs", mills(1, 5, 2, 5, 3, 5), 24, 10, 3, 24);
        best("the better pair of one town", mills(1, 4, 1, 5, 2, 6, 2, 7), 14, 13, 12, 14);
        MillInspectors x = mills(1, 4, 2, 5, 2, 6, 1, 7);
        best("0 and 3, or 1 and 2, both with 11", x, 14, 11, 6, 14);
    }

    /** Terms 6: "0 to itself". */
    private static void oneTown() {
        MillInspectors x = mills(8, 1, 8, 1, 8, 1, 8, 1, 8, 1, 8, 1);
        for (int many = 0; many <= 6; many++) {
            int hours = 10 + 2 * many;
            best(many + " mills of one town", x, hours, many, (1 << many) - 1, many == 0 ? 0 : hours);
            best(many + " mills of one town, an hour more", x, hours + 1, many, (1 << many) - 1, many == 0 ? 0 : hours);
        }
    }

    /** Terms 6: "(in the best order)"; the roads are taken as told. */
    private static void bestOrder() {
        MillInspectors x = mills(1, 1, 2, 1, 3, 1);
        x.road(0, 3, 1);
        x.road(3, 1, 1);
        x.road(1, 2, 1);
        best("3, 1, 2", x, 9, 3, 7, 9);
        best("an hour too few", x, 8, 2, 5, 6);
        MillInspectors y = mills(1, 1);
        y.road(0, 5, 1);
        y.road(5, 1, 1);
        best("not by a town without a visit", y, 11, 0, 0, 0);
        best("but as told", y, 12, 1, 1, 12);
    }

    /** The farthest that can be: six mills, 30 hours each and 2 besides. */
    private static void sixMills() {
        MillInspectors x = mills(1, 99, 2, 99, 3, 99, 4, 99, 5, 99, 6, 99);
        for (int a = 0; a < 9; a++) {
            for (int b = a + 1; b < 9; b++) {
                x.road(a, b, 30);
            }
        }
        best("all six", x, 200, 594, 63, 192);
        best("just all six", x, 192, 594, 63, 192);
        best("an hour too few: five", x, 191, 495, 31, 160);
        best("one of them", x, 32, 99, 1, 32);
        best("none of them", x, 31, 0, 0, 0);
        x.doubt(0, 0);
        best("the first without doubt", x, 200, 495, 62, 160);
    }

    /** Terms 6: "(Not back.)" */
    private static void notBack() {
        MillInspectors x = mills(1, 1);
        x.road(0, 1, 30);
        best("there, and not back", x, 32, 1, 1, 32);
    }
}
