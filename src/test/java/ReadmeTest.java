import java.io.IOException;
import java.nio.file.Files;
import java.nio.file.Path;

/** README.md's example: each line of it, with the answer that it tells. */
public final class ReadmeTest {
    private static final Check check = new Check("ReadmeTest");
    private static String readme;

    public static void main(String[] args) throws IOException {
        readme = Files.readString(Path.of("README.md")).replaceAll(" +", " ");
        ChairLeague league = new ChairLeague();
        says("ChairLeague league = new ChairLeague();");
        said("chair(0, 5)", league.chair(0, 5), 0);
        said("musician(0, 6, 0)", league.musician(0, 6, 0), 0);
        said("season()", league.season(), 1);
        said("concert(1)", league.concert(1), 12);
        said("promote(0)", league.promote(0), ChairLeague.REFUSED);
        said("reason(0, false)", league.reason(0, false), 14);
        said("reason(0, true)", league.reason(0, true), 8);
        says("for (char code : \"p1;t0;b0=3\".toCharArray()) { league.append(code); }");
        for (char code : "p1;t0;b0=3".toCharArray()) {
            league.append(code);
        }
        said("run()", league.run(), 3);
        said("tell(0)", league.tell(0), 10);
        check.dueText("the line that the example tells", Check.lineOf(league), "0s0n5c0^:0");
        said("character(0)", league.character(0), '0');
        said("undo()", league.undo(), 4);
        said("account(9)", league.account(9), 1);
        check.finish();
    }

    private static void said(String call, int got, int want) {
        check.due(call, got, want);
        says("league." + call + "; // " + nameOf(want));
    }

    private static void says(String line) {
        check.due("README.md says " + line, readme.contains("\n" + line) ? 1 : 0, 1);
    }

    private static String nameOf(int answer) {
        return answer == ChairLeague.REFUSED ? "REFUSED" : String.valueOf(answer);
    }
}
