/** Promises 17 and 18: the shortest way to all goals at once, and the number of ways. */
public final class WaysTest {
    private static final int[] NO_PLACE = {-2, 256, 1000, Integer.MIN_VALUE, Integer.MAX_VALUE};

    public static void main(String[] args) {
        withoutWorld();
        wayOfAll();
        noWay();
        wayThatUndoesNothing();
        waysOfLengths();
        waysModulo();
        Check.end("WaysTest");
    }

    private static void withoutWorld() {
        WantPlots x = new WantPlots();
        for (int place : new int[] {-1, 0, 1, -2, Integer.MIN_VALUE}) {
            Check.due("together without a world " + place, x.together(place), -103);
            Check.due("ways without a world " + place, x.ways(place), -103);
        }
    }

    private static void wayOfAll() {
        WantPlots x = Check.worldOf("p+a,p+b,p-c;c:1>b,0>a,1>b-c,0>ab");
        Check.due("together", x.together(-1), 2);
        Check.due("together 0", x.together(0), 1);
        Check.due("together 1", x.together(1), 2);
        Check.due("together 2", x.together(2), -101);
        for (int place : NO_PLACE) {
            Check.due("together " + place, x.together(place), -101);
        }
        x.act(1);
        Check.due("together after an act", x.together(-1), 1);
        Check.due("together 0 after an act", x.together(0), 2);
        x.act(2);
        Check.due("together at the end", x.together(-1), 0);
        Check.due("together 0 at the end", x.together(0), -101);
    }

    private static void noWay() {
        WantPlots conflict = Check.worldOf("p+a,p-a;:0>a,1>-a");
        Check.due("goals that exclude each other", conflict.together(-1), -1);
        Check.due("goals that exclude each other", conflict.together(0), -101);
        for (int length = 0; length <= 12; length++) {
            Check.due("no ways of length " + length, conflict.ways(length), 0);
        }
        WantPlots stuck = Check.worldOf("p+a,p+b;:0>a-b,1a>b-a");
        Check.due("goals that spoil each other", stuck.together(-1), -1);
        Check.due("goals that spoil each other", stuck.together(0), -101);
    }

    private static void wayThatUndoesNothing() {
        WantPlots x = Check.worldOf("p+a,p+b;:0>a-b,1>b");
        Check.due("the order matters", x.together(-1), 2);
        Check.due("the order matters", x.together(0), 0);
        Check.due("the order matters", x.together(1), 1);
        Check.due("nothing was done", x.about(2), 0);
        Check.due("nothing was done", x.about(4), 0);
    }

    private static void waysOfLengths() {
        WantPlots x = Check.worldOf("p+a,p+b;:0-a>a,1-b>b,0a>-a");
        for (int length : new int[] {-1, 13, -2, Integer.MIN_VALUE, Integer.MAX_VALUE}) {
            Check.due("ways " + length, x.ways(length), -102);
        }
        int[] ways = {0, 0, 2, 0, 4, 0, 6, 0, 8, 0, 10, 0, 12};
        for (int length = 0; length <= 12; length++) {
            Check.due("ways " + length, x.ways(length), ways[length]);
        }
        x.act(0);
        Check.due("ways from now on", x.ways(1), 1);
        x.act(1);
        Check.due("the empty way", x.ways(0), 1);
        Check.due("to and fro", x.ways(2), 1);
        WantPlots down = Check.worldOf("p-a,p-h;ah:0a>-a,0h>-h,0>b");
        int[] down3 = {0, 0, 2, 6, 12};
        for (int length = 0; length <= 4; length++) {
            Check.due("ways to false facts " + length, down.ways(length), down3[length]);
        }
        WantPlots nowhere = Check.worldOf("p-a,p-h;a:0>-a");
        Check.due("ways to no facts at all", nowhere.ways(2), 1);
        WantPlots all = Check.worldOf("p+a,p+h;bcdefg:0>ah");
        Check.due("ways to all facts", all.ways(1), 1);
    }

    private static void waysModulo() {
        String nine = "p+a;:0>a,0>a,0>a,0>a,0>a,0>a,0>a,0>a,0>a";
        WantPlots x = Check.worldOf(nine);
        long power = 1;
        for (int length = 1; length <= 12; length++) {
            power *= 9;
            Check.due("nine to the power of " + length, x.ways(length), power % 1000000);
        }
        WantPlots y = Check.worldOf(nine + ",0>a");
        Check.due("ten to the power of 5", y.ways(5), 100000);
        Check.due("ten to the power of 6", y.ways(6), 0);
        Check.due("ten to the power of 12", y.ways(12), 0);
    }
}
