/** Promises 32 to 34: road, doubt, way. */
public final class VisitsTest {
    private static final int BAD = MillInspectors.BAD;

    public static void main(String[] args) {
        roads();
        doubts();
        ways();
        wrongWays();
        againstAllOrders();
        Due.end("VisitsTest");
    }

    private static void roads() {
        MillInspectors x = new MillInspectors();
        int[][] wrong = {{-1, 0, 1}, {9, 0, 1}, {0, -1, 1}, {0, 9, 1}, {3, 3, 1}, {0, 0, 1}, {0, 1, 0}, {0, 1, 31}};
        for (int[] w : wrong) {
            Due.is("wrong road", x.road(w[0], w[1], w[2]), BAD);
        }
        for (int a = 0; a < 9; a++) {
            for (int b = a + 1; b < 9; b++) {
                Due.is("road at first", x.road(a, b, a + b), 10);
                Due.is("either way", x.road(b, a, 30), a + b);
                Due.is("and back", x.road(a, b, 1), 30);
            }
        }
    }

    private static void doubts() {
        MillInspectors x = new MillInspectors();
        Due.is("doubt of no mill", x.doubt(0, 1), BAD);
        x.mill(0, 1, 1);
        Due.is("doubt at first", x.doubt(0, 99), 0);
        Due.is("doubt then", x.doubt(0, 0), 99);
        Due.is("doubt(0, 100)", x.doubt(0, 100), BAD);
        Due.is("doubt(0, -1)", x.doubt(0, -1), BAD);
        Due.is("doubt(-1, 0)", x.doubt(-1, 0), BAD);
    }

    private static void best(MillInspectors x, int hours, int doubt, int set, int needed) {
        Due.is("way(" + hours + ", 0)", x.way(hours, 0), doubt);
        Due.is("way(" + hours + ", 1)", x.way(hours, 1), set);
        Due.is("way(" + hours + ", 2)", x.way(hours, 2), needed);
    }

    private static void ways() {
        MillInspectors x = new MillInspectors();
        x.mill(0, 1, 1);
        best(x, 200, 0, 0, 0);
        x.mill(0, 1, 2);
        x.mill(0, 1, 3);
        x.doubt(0, 5);
        best(x, 11, 0, 0, 0);
        best(x, 12, 5, 1, 12);
        x.doubt(1, 5);
        best(x, 12, 5, 1, 12);
        x.road(0, 2, 9);
        best(x, 12, 5, 2, 11);
        best(x, 22, 5, 2, 11);
        best(x, 23, 10, 3, 23);
        x.road(1, 2, 1);
        best(x, 14, 10, 3, 14);
        best(x, 13, 5, 2, 11);
        x.road(0, 4, 1);
        x.road(4, 1, 1);
        // Through town 4 the mill of town 1 would be 2 hours away; HOURS between TOWNS are as told.
        best(x, 13, 5, 2, 11);
        x.road(0, 3, 1);
        x.road(3, 1, 1);
        // A visit on the way may be worth its hours though it adds no doubt.
        best(x, 13, 10, 7, 9);
    }

    private static void wrongWays() {
        MillInspectors x = new MillInspectors();
        int[][] wrong = {{0, 0}, {201, 0}, {-1, 0}, {1, 3}, {1, -1}};
        for (int[] w : wrong) {
            Due.is("wrong way", x.way(w[0], w[1]), BAD);
        }
    }

    private static int[] naive;

    private static void visit(int[][] mills, int[][] roads, int most, int[] state) {
        int set = state[0];
        int town = state[1];
        int hours = state[2];
        int doubt = state[3];
        boolean better = doubt > naive[0] || doubt == naive[0]
            && (hours < naive[2] || hours == naive[2] && set < naive[1]);
        if (better) {
            naive = new int[] {doubt, set, hours};
        }
        for (int k = 0; k < mills.length; k++) {
            int then = hours + roads[town][mills[k][0]] + 2;
            if ((set >> k & 1) == 0 && then <= most) {
                visit(mills, roads, most, new int[] {set | 1 << k, mills[k][0], then, doubt + mills[k][1]});
            }
        }
    }

    private static void againstAllOrders() {
        java.util.Random random = new java.util.Random(7);
        for (int run = 0; run < 150; run++) {
            MillInspectors x = new MillInspectors();
            int[][] mills = new int[1 + random.nextInt(6)][];
            int[][] roads = new int[9][9];
            for (int k = 0; k < mills.length; k++) {
                mills[k] = new int[] {1 + random.nextInt(8), random.nextInt(run % 2 == 0 ? 4 : 100)};
                x.mill(0, 1, mills[k][0]);
                x.doubt(k, mills[k][1]);
            }
            for (int a = 0; a < 9; a++) {
                for (int b = a + 1; b < 9; b++) {
                    roads[a][b] = 1 + random.nextInt(30);
                    roads[b][a] = roads[a][b];
                    x.road(b, a, roads[a][b]);
                }
            }
            for (int k = 0; k < 5; k++) {
                int hours = 1 + random.nextInt(k == 0 ? 200 : 80);
                naive = new int[] {0, 0, 0};
                visit(mills, roads, hours, new int[] {0, 0, 0, 0});
                best(x, hours, naive[0], naive[1], naive[2]);
            }
        }
    }
}
