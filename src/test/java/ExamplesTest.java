import java.io.IOException;
import java.nio.file.Files;
import java.nio.file.Path;
import java.util.regex.Matcher;
import java.util.regex.Pattern;

/** The three examples of the document, to the letter, and the one of README.md. */
public final class ExamplesTest {
    private static final String FIRST = "letter(112) = 1; letter(43) = 2; letter(97) = 3; letter(59) = 4;"
            + " letter(58) = 5; letter(48) = 6; letter(62) = 7; letter(97) = 8; world() = 1; one(0,5) = 1;"
            + " go(1) = 1; step(0,0) = 0; fate(0) = 2; story(2) = 0; ways(2) = 1;"
            + " digest() = 1723887512197510725";
    private static final String SECOND = "letter(115) = 1; letter(43) = 2; letter(97) = 3; letter(59) = 4;"
            + " letter(98) = 5; letter(58) = 6; letter(48) = 7; letter(98) = 8; letter(45) = 9; fault() = 9;"
            + " letter(98) = 10; fault() = 9; world() = -103; go(0) = -102; go(1) = -103; undo() = -103";
    private static final String THIRD = "blank() = 0; fault() = 0; world() = -103; about(7) = -102;"
            + " about(0) = -103; one(0,0) = -101; ways(13) = -103; together(0) = -103; story(7) = -102;"
            + " letter(31) = -102; act(0) = -103; fate(8) = -103; count(6) = -102; digest() = 1417343378557";

    /** The answers that README.md tells with a number. */
    private static final int TOLD = 5;

    public static void main(String[] args) throws ReflectiveOperationException, IOException {
        follow(FIRST);
        follow(SECOND);
        follow(THIRD);
        readme(Files.readString(Path.of("README.md")));
        Check.end("ExamplesTest");
    }

    private static void follow(String example) throws ReflectiveOperationException {
        WantPlots x = new WantPlots();
        for (String row : example.split(";")) {
            String[] sides = row.trim().split(" = ");
            Check.due(sides[0], call(x, sides[0]), Long.parseLong(sides[1]));
        }
    }

    private static void readme(String page) throws ReflectiveOperationException {
        Matcher text = Pattern.compile("String text = \"([^\"]*)\";").matcher(page);
        Check.due("a text in README.md", text.find() ? 1 : 0, 1);
        WantPlots x = Check.pageOf(text.group(1));
        Matcher row = Pattern.compile("(?m)^x\\.(\\w+\\([^)]*\\)); +// (-?\\d+):").matcher(page);
        int told = 0;
        while (row.find()) {
            told++;
            Check.due("README.md: " + row.group(1), call(x, row.group(1).replace(" ", "")), Long.parseLong(row.group(2)));
        }
        Check.due("the answers told in README.md", told, TOLD);
    }

    private static long call(WantPlots x, String text) throws ReflectiveOperationException {
        String name = text.substring(0, text.indexOf('('));
        String inside = text.substring(text.indexOf('(') + 1, text.indexOf(')'));
        String[] words = inside.isEmpty() ? new String[0] : inside.split(",");
        Class<?>[] types = new Class<?>[words.length];
        Object[] values = new Object[words.length];
        for (int i = 0; i < words.length; i++) {
            types[i] = int.class;
            values[i] = Integer.valueOf(words[i]);
        }
        return ((Number) WantPlots.class.getMethod(name, types).invoke(x, values)).longValue();
    }
}
