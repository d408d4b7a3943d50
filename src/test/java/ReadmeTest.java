import java.io.IOException;
import java.nio.charset.StandardCharsets;
import java.nio.file.Files;
import java.nio.file.Path;

/** The example of README.md: its lines are the ones here, and its answers are as it says. */
public final class ReadmeTest {
    private static final Check check = new Check("ReadmeTest");

    public static void main(String[] args) throws IOException {
        example();
        String here = Files.readString(Path.of("src/test/java/ReadmeTest.java"), StandardCharsets.UTF_8);
        String readme = Files.readString(Path.of("README.md"), StandardCharsets.UTF_8);
        sameLines(readme, here, "example");
        sameLines(readme, here, "helper");
        check.end();
    }

    private static void sameLines(String readme, String here, String part) {
        String begin = "// the " + part + " begins\n";
        String lines = here.substring(here.indexOf(begin) + begin.length(), here.indexOf("    // the " + part + " ends"));
        check.due("README.md has the " + part, readme.contains(lines.replaceAll("(?m)^ {4}", "")), true);
    }

    // the helper begins
    /** Puts a text on the tape, twenty bytes a call; what fills the last call up is not read. */
    static int feed(SorryWalk x, String text) {
        for (int i = 0; i < text.length(); i += 20) {
            int[] five = new int[5];
            for (int k = 0; k < 20 && i + k < text.length(); k++) {
                five[k / 4] |= text.charAt(i + k) << 24 - k % 4 * 8;
            }
            x.feed(five[0], five[1], five[2], five[3], five[4]);
        }
        return text.length();
    }
    // the helper ends

    // the example begins
    static void example() {
        SorryWalk x = new SorryWalk();
        int persons = x.land(feed(x, "house mill; house inn; door mill inn;"
            + "person ida in mill dead; person jon in inn; person kit in inn; owes ida jon 2; heir jon kit;"));
        due(persons, 3);            // PERSONS are 0 (ida), 1 (jon), 2 (kit); HOUSES 0 (mill), 1 (inn)
        due(x.aim(0), 1);           // ida walks to jon,
        due(x.rest(0), 3);          // and is at rest in 3 NIGHTS

        x.mark();
        due(x.night(2), 2);         // one through the DOOR, one for the first SORRY
        due(x.told(5), 1);          // SORROW: 1 is left
        due(x.die(1), 1);           // jon DIES, so that kit is owed it
        due(x.owed(0, 2), 1);
        due(x.undo(), 0);           // all is taken back
        due(x.told(5), 2);

        due(x.person(3, 0), SorryWalk.NONE);
        due(x.status(), 1);         // there is no PERSON 3

        due(x.land(feed(x, "house mill house inn;")), SorryWalk.NONE);
        due(x.status(), 9);         // a FAULT: the old LAND stays;
        due(x.fault(0), 2);         // of which kind it is (it can't stand there),
        due(x.fault(1), 11);        // and where

        due(x.tales(feed(x, "loop 3; night 1; when rest ida; stop; end; end; any;")), 5);
        due(x.live(7), 8);          // STEPS done: a loop, three NIGHTS, three whens, a stop
        due(x.lived(2), 2);         // SORRIES said meanwhile
    }
    // the example ends

    private static void due(int got, int want) {
        check.due("an answer of the example", got, want);
    }
}
