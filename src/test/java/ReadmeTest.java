import java.nio.file.Files;
import java.nio.file.Path;

/** The example of README.md: each of its calls stands there, and answers what is written behind it. */
public final class ReadmeTest {
    private static String readme = "";

    public static void main(String[] args) throws Exception {
        readme = Files.readString(Path.of("README.md"));
        String signs = "c54345 g4 d5 x01 x10";
        says("String signs = \"" + signs + "\";");
        PartyWill x = new PartyWill();
        Checks.text(x, 0, signs);
        answers("x.party(0);", x.party(0), 2);
        answers("x.tune(3);", x.tune(3), 2);
        answers("x.undo(0);", x.undo(0), 1);
        answers("x.row(0, 2);", x.row(0, 2), 2);
        answers("x.lay(0, 1, 3);", x.lay(0, 1, 3), 1);
        Checks.due("what was there", x.asked(), 0);
        answers("x.falls(0);", x.falls(0), 1);
        Checks.due("who falls", x.asked(), 2);
        answers("x.guest(1, 1);", x.guest(1, 1), 1);
        Checks.due("the grief", x.asked(), 5);
        answers("x.odds(3);", x.odds(3), 1);
        says("21 by 32");
        Checks.due("upper()", x.upper(), 21);
        Checks.due("lower()", x.lower(), 32);
        Checks.end();
    }

    private static void says(String words) {
        Checks.due("README.md says " + words, readme.contains(words) ? 1 : 0, 1);
    }

    private static void answers(String call, long got, long want) {
        says(call);
        Checks.due(call, got, want);
    }
}
