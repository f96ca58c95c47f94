/** Promises 19 and 20: the counts and the digest. */
public final class CountTest {
    public static void main(String[] args) {
        counts();
        digests();
        digestChangesNothing();
        errorsChangeNothing();
        Check.end("CountTest");
    }

    private static void counts(WantPlots x, int... want) {
        for (int what = 0; what < want.length; what++) {
            Check.due("count " + what, x.count(what), want[what]);
        }
    }

    private static void counts() {
        WantPlots x = new WantPlots();
        for (int odd : new int[] {-1, 6, 7, Integer.MIN_VALUE, Integer.MAX_VALUE}) {
            Check.due("count " + odd, x.count(odd), -102);
        }
        counts(x, 0, 0, 0, 0, 0, 0);
        Check.write(x, "p+a,p-a;:0>a,1>-a,0>b");
        counts(x, 0, 21, 0, 0, 0, 0);
        x.world();
        counts(x, 3, 0, 0, 1, 0, 0);
        x.go(7);
        x.fate(0);
        x.act(2);
        counts(x, 3, 0, 9, 1, 7, 0);
        x.undo();
        x.undo();
        counts(x, 3, 0, 7, 1, 7, 2);
        Check.write(x, "p+a;:0>a");
        counts(x, 3, 8, 7, 1, 7, 2);
        x.world();
        counts(x, 1, 0, 0, 2, 7, 2);
        x.go(3);
        x.undo();
        counts(x, 1, 0, 0, 2, 10, 3);
    }

    /** The digest as the document tells it, from what the other calls answer. */
    private static long told(WantPlots x, String page) {
        long h = 1597;
        if (x.count(3) > 0) {
            for (int what = 0; what <= 6; what++) {
                h = 31 * h + x.about(what);
            }
            for (int who = 0; who < x.about(0); who++) {
                for (int what = 0; what <= 7; what++) {
                    h = 31 * h + x.one(who, what);
                }
                for (int place = 0; place < x.one(who, 5); place++) {
                    h = 31 * h + x.plan(who, place);
                }
            }
            for (int act = 0; act < x.about(1); act++) {
                for (int what = 0; what <= 6; what++) {
                    h = 31 * h + x.deed(act, what);
                }
            }
            for (int step = 0; step < x.about(2); step++) {
                for (int what = 0; what <= 8; what++) {
                    h = 31 * h + x.step(step, what);
                }
            }
            for (int what = 0; what <= 6; what++) {
                h = 31 * h + x.story(what);
            }
            h = 31 * h + x.together(-1);
            for (int place = 0; place < x.together(-1); place++) {
                h = 31 * h + x.together(place);
            }
            for (int length = 0; length <= 4; length++) {
                h = 31 * h + x.ways(length);
            }
        }
        for (int i = 0; i < page.length(); i++) {
            h = 31 * h + page.charAt(i);
        }
        for (int what = 0; what <= 5; what++) {
            h = 31 * h + x.count(what);
        }
        return h;
    }

    private static void digests() {
        WantPlots x = new WantPlots();
        Check.due("digest of nothing", x.digest(), 1417343378557L);
        Check.write(x, "~ ");
        Check.due("digest of a page", x.digest(), told(x, "~ "));
        String[] texts = {"p+a;:0>a", "s-a,k+d,i+h,p-e;acegh:0a>b,0bc-d>d-ab,1-d>e,2>h-g,3e>-e,2h>a", "p+a,p-a;:0>b",
            "s+d,p+b;a:0>d,0>c,0c>-a,1a>b"};
        for (String text : texts) {
            WantPlots y = Check.worldOf(text);
            Check.due("digest of " + text, y.digest(), told(y, ""));
            y.go(6);
            y.fate(2);
            y.go(3);
            y.undo();
            Check.write(y, "p+a,!");
            Check.due("digest after turns of " + text, y.digest(), told(y, "p+a,!"));
        }
    }

    private static void digestChangesNothing() {
        WantPlots x = Check.worldOf("s+d,p+b;a:0>d,0>c,0c>-a,1a>b");
        x.go(2);
        Check.write(x, "p");
        long first = x.digest();
        Check.due("digest again", x.digest(), first);
        x.fault();
        x.foil(0, 1, 0);
        x.together(0);
        x.ways(12);
        Check.due("digest after what tells", x.digest(), first);
    }

    private static void errorsChangeNothing() {
        WantPlots x = Check.worldOf("p+a,p-a;:0-a>a,1a>-a");
        x.go(20);
        x.go(20);
        Check.write(x, "p+a;:0>");
        long before = x.digest();
        Check.due("letter", x.letter(127), -102);
        Check.due("world", x.world(), -103);
        Check.due("go", x.go(0), -102);
        Check.due("fate", x.fate(0), -104);
        Check.due("fate", x.fate(8), -101);
        Check.due("act", x.act(0), -104);
        Check.due("act", x.act(1), -102);
        Check.due("act", x.act(2), -101);
        Check.due("digest after errors", x.digest(), before);
    }
}
