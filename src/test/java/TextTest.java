/** Promises 1 to 5: a new object, and the page from which a world is read. */
public final class TextTest {
    public static void main(String[] args) {
        newObject();
        letters();
        blanks();
        faultsOfCharacters();
        faultsOfFirstFacts();
        faultsOfActs();
        faultsOfNumbers();
        faultsNearTheEndOfThePage();
        worldsThatAreRead();
        worldsThatAreRefused();
        worldsInPlaceOfOthers();
        Check.end("TextTest");
    }

    private static void newObject() {
        WantPlots x = new WantPlots();
        for (int what = 0; what <= 5; what++) {
            Check.due("new: count " + what, x.count(what), 0);
        }
        for (int what = 0; what <= 6; what++) {
            Check.due("new: about " + what, x.about(what), -103);
            Check.due("new: story " + what, x.story(what), -103);
        }
        Check.due("new: step", x.step(0, 0), -101);
        Check.due("new: deed", x.deed(0, 0), -101);
        Check.due("new: one", x.one(0, 0), -101);
        Check.due("new: plan", x.plan(0, 0), -101);
        Check.due("new: foil", x.foil(0, 1, 0), -101);
        Check.due("new: digest", x.digest(), 1417343378557L);
    }

    private static void letters() {
        WantPlots x = new WantPlots();
        for (int code : new int[] {31, 127, 0, -1, 128, 256 + 97, Integer.MIN_VALUE, Integer.MAX_VALUE}) {
            Check.due("letter " + code, x.letter(code), -102);
        }
        Check.due("nothing was written", x.count(1), 0);
        Check.due("letter 32", x.letter(32), 1);
        Check.due("letter 126", x.letter(126), 2);
        for (int length = 3; length <= 90; length++) {
            Check.due("letter up to " + length, x.letter(97), length);
        }
        Check.due("letter 91", x.letter(97), -104);
        Check.due("letter out of range on a full page", x.letter(31), -102);
        Check.due("the page stays full", x.count(1), 90);
    }

    private static void blanks() {
        WantPlots x = new WantPlots();
        Check.due("blank of nothing", x.blank(), 0);
        Check.write(x, "p+a");
        Check.due("blank", x.blank(), 3);
        Check.due("blank again", x.blank(), 0);
        Check.due("length after blank", x.count(1), 0);
        Check.due("digest after blank", x.digest(), 1417343378557L);
        Check.due("letter after blank", x.letter(97), 1);
    }

    private static void fault(String text, int position) {
        WantPlots x = new WantPlots();
        Check.write(x, text);
        Check.due("fault of " + text, x.fault(), position);
        Check.due("fault of " + text + " again", x.fault(), position);
        Check.due("the page after fault", x.count(1), text.length());
    }

    private static void faultsOfCharacters() {
        fault("", 0);
        fault(" p", 0);
        fault("q", 0);
        fault("P", 0);
        fault("p", 1);
        fault("pp", 1);
        fault("p*", 1);
        fault("p+", 2);
        fault("p+h", 3);
        fault("p+i", 2);
        fault("p+`", 2);
        fault("p-a,", 4);
        fault("p-a,,", 4);
        fault("p-ab", 3);
        fault("p-a:", 3);
        fault("s+a,k-b,i+c,p-d", 15);
        fault("s+a,k-b,i+c,p-d,", 15);
        fault("s+a,k-b,i+c,p-d,p", 15);
    }

    private static void faultsOfFirstFacts() {
        fault("p+a;", 4);
        fault("p+a;;", 4);
        fault("p+a;abcdefgh", 12);
        fault("p+a;abcdefghi", 12);
        fault("p+a;aa", 5);
        fault("p+a;ca", 5);
        fault("p+a;a-b", 5);
        fault("p+a;a:", 6);
        fault("p+a;a,", 5);
    }

    private static void faultsOfActs() {
        fault("p+a;:a", 5);
        fault("p+a;:-", 5);
        fault("p+a;:0", 6);
        fault("p+a;:00", 6);
        fault("p+a;:0,", 6);
        fault("p+a;:0ba", 7);
        fault("p+a;:0aa", 7);
        fault("p+a;:0->", 7);
        fault("p+a;:0--", 7);
        fault("p+a;:0b-a", 9);
        fault("p+a;:0b-b", 8);
        fault("p+a;:0b-ca", 9);
        fault("p+a;:0b-c-", 9);
        fault("p+a;:0b-c,", 9);
        fault("p+a;:0abcdefg-h>h", 17);
        fault("p+a;:0abcdefgh-", 14);
        fault("p+a;:0>", 7);
        fault("p+a;:0>>", 7);
        fault("p+a;:0>,", 7);
        fault("p+a;:0>-", 8);
        fault("p+a;:0>-,", 8);
        fault("p+a;:0>->", 8);
        fault("p+a;:0>--", 8);
        fault("p+a;:0>-a", 9);
        fault("p+a;:0>b-a", 10);
        fault("p+a;:0>b-b", 9);
        fault("p+a;:0>ba", 8);
        fault("p+a;:0>b-ca", 10);
        fault("p+a;:0>b-c-", 10);
        fault("p+a;:0>abcdefgh", 15);
        fault("p+a;:0>abcdefgh-", 15);
        fault("p+a;:0>abcdefgh,0", 17);
        fault("p+a;:0>a,", 9);
        fault("p+a;:0>a,,", 9);
        fault("p+a;:0>a;", 8);
        fault("p+a;:0>a ", 8);
        fault("p+a;:0a>a", 9);
        fault("p+a;:0a-b>b-a", 13);
    }

    private static void faultsOfNumbers() {
        fault("p+a;:1", 5);
        fault("p+a,p+b;:1", 10);
        fault("p+a,p+b;:2", 9);
        fault("p+a,p+b,p+c,p+d;:3>a,4", 21);
        fault("p+a;:/", 5);
        String nine = "0>a,0>a,0>a,0>a,0>a,0>a,0>a,0>a,0>a";
        fault("p+a;:" + nine + ",0>b", 44);
        fault("p+a;:" + nine + ",0>b,", 44);
        fault("p+a;:" + nine + ",0>b-a,", 46);
        fault("p+a;:" + nine + ",", 41);
    }

    /** The grammar alone decides what a beginning is: see NOTES.md. */
    private static void faultsNearTheEndOfThePage() {
        String acts = "0abcdefgh>abcdefgh,0abcdefgh>abcdefgh,0abcdefgh>abcdefgh,0abcdefgh>abcdefgh,";
        fault("p+a;:" + acts + "0abcd-e>f", 90);
        fault("p+a;:" + acts + "0abcd-ef>", 90);
        fault("p+a;:" + acts + "0abcd-ee>", 88);
        fault("p+a;:" + acts + "0abcd>f-f", 89);
    }

    private static void worldsThatAreRead() {
        read("p+a;:0>a", 1);
        read("i-h;abcdefgh:0abcdefgh>abcdefgh", 1);
        read("s+a,k-b,i+c,p-d;:3-h>-h", 1);
        read("p+a;:0>a,0>a,0>a,0>a,0>a,0>a,0>a,0>a,0>a,0>-h", 10);
        String acts = "0abcdefgh>abcdefgh,0abcdefgh>abcdefgh,0abcdefgh>abcdefgh,0abcdefgh>abcdefgh,";
        read("p+a;:" + acts + "0abcd-e>f", 5);
    }

    private static void read(String text, int acts) {
        WantPlots x = new WantPlots();
        Check.write(x, text);
        Check.due("world of " + text, x.world(), acts);
        Check.due("the page after world", x.count(1), 0);
        Check.due("acts after world", x.count(0), acts);
        Check.due("worlds read", x.count(3), 1);
        Check.due("world of the empty page", x.world(), -103);
        Check.due("worlds read still", x.count(3), 1);
    }

    private static void worldsThatAreRefused() {
        for (String text : new String[] {"", "p", "p+", "p+a", "p+a,", "p+a;", "p+a;:", "p+a;:0", "p+a;:0>", "p+a;:0a",
            "p+a;:0a-", "p+a;:0a-b", "p+a;:0a-b>", "p+a;:0>-", "p+a;:0>a-", "p+a;:0>a,", "p+a;:0>a,0", "p+a;:0>a ",
            " p+a;:0>a", "p+a;:0>b-b", "p+a;:1>a", "p+a;:0a-a>b", "p+a;:0>a,0>"}) {
            WantPlots x = Check.worldOf("p+b;c:0>b,0>c");
            x.go(2);
            Check.write(x, text);
            Check.due("world of " + text, x.world(), -103);
            Check.due("the page stays", x.count(1), text.length());
            Check.due("the acts stay", x.about(1), 2);
            Check.due("the facts stay", x.about(4), 6);
            Check.due("the turn stays", x.about(3), 2);
            Check.due("the steps stay", x.about(2), 1);
            Check.due("the deed stays", x.deed(1, 3), 4);
            Check.due("the count stays", x.count(3), 1);
        }
    }

    private static void worldsInPlaceOfOthers() {
        WantPlots x = Check.worldOf("p+a,p-a,s+c;h:0-a>a,1a>-a,2>h");
        x.go(5);
        x.fate(2);
        x.undo();
        Check.due("steps before", x.about(2), 4);
        Check.write(x, "k-b;ab:0b-c>-b");
        Check.due("the second world", x.world(), 1);
        int[] about = {1, 1, 0, 0, 3, 3, 0};
        for (int what = 0; what <= 6; what++) {
            Check.due("second: about " + what, x.about(what), about[what]);
        }
        int[] deed = {0, 2, 4, 0, 2, 1, 0};
        for (int what = 0; what <= 6; what++) {
            Check.due("second: deed " + what, x.deed(0, what), deed[what]);
        }
        Check.due("second: no act 1", x.deed(1, 0), -101);
        Check.due("second: no character 1", x.one(1, 0), -101);
        int[] one = {2, 1, 0, 1, 0, 1, 0, 0};
        for (int what = 0; what <= 7; what++) {
            Check.due("second: one " + what, x.one(0, what), one[what]);
        }
        int[] count = {1, 0, 0, 2, 5, 1};
        for (int what = 0; what <= 5; what++) {
            Check.due("second: count " + what, x.count(what), count[what]);
        }
        Check.due("second: undo", x.undo(), -103);
        Check.write(x, "p+h,i-a;:1>g,0>-c");
        Check.due("the third world", x.world(), 2);
        row("third: about", new int[] {x.about(0), x.about(1), x.about(4), x.about(5), x.about(6)}, 2, 2, 0, 0, 2);
        for (int act = 0; act < 2; act++) {
            row("third: deed " + act, new int[] {x.deed(act, 0), x.deed(act, 1), x.deed(act, 2), x.deed(act, 3),
                x.deed(act, 4)}, 1 - act, 0, 0, act == 0 ? 64 : 0, act == 0 ? 0 : 4);
        }
        Check.write(x, "p+a;abc:0abc-d>");
        Check.due("a text that is not ended", x.fault(), 15);
        Check.due("a text that is not ended", x.world(), -103);
        x.blank();
        Check.write(x, "p-h;:0>h");
        Check.due("the fourth world", x.world(), 1);
        row("fourth", new int[] {x.about(4), x.deed(0, 1), x.deed(0, 2), x.deed(0, 3), x.deed(0, 4), x.one(0, 1),
            x.one(0, 2), x.about(6)}, 0, 0, 0, 128, 0, 7, 0, 1);
    }

    private static void row(String name, int[] got, int... want) {
        for (int i = 0; i < want.length; i++) {
            Check.due(name + ", " + i, got[i], want[i]);
        }
    }
}
